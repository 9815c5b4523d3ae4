def F_X9_clear (v_segmentCount : Int32) (v_wordCount : Int32) : Option ((Int32) × (Int32)) := some ((0 : Int32), (0 : Int32))
def F_X9_copyFrom (v_segmentCount : Int32) (v_wordCount : Int32) (v_order : Nat → Int32) (v_durations : Nat → Int32) (v_pauses : Nat → Int32) (v_sizes : Nat → Int32) (v_words : Nat → Int32) (v_names : Nat → Int64) (v_p1_segmentCount : Int32) (v_p1_wordCount : Int32) (v_p1_order : Nat → Int32) (v_p1_durations : Nat → Int32) (v_p1_pauses : Nat → Int32) (v_p1_sizes : Nat → Int32) (v_p1_words : Nat → Int32) (v_p1_names : Nat → Int64) : Option ((Int32) × (Int32) × (Nat → Int32) × (Nat → Int32) × (Nat → Int32) × (Nat → Int32) × (Nat → Int32) × (Nat → Int64)) := some (v_p1_segmentCount, v_p1_wordCount, (va_cpy v_p1_order v_order (0 : Int32).toNatClampNeg (0 : Int32).toNatClampNeg (32 : Int32).toNatClampNeg), (va_cpy v_p1_durations v_durations (0 : Int32).toNatClampNeg (0 : Int32).toNatClampNeg (32 : Int32).toNatClampNeg), (va_cpy v_p1_pauses v_pauses (0 : Int32).toNatClampNeg (0 : Int32).toNatClampNeg (32 : Int32).toNatClampNeg), (va_cpy v_p1_sizes v_sizes (0 : Int32).toNatClampNeg (0 : Int32).toNatClampNeg (32 : Int32).toNatClampNeg), (va_cpy v_p1_words v_words (0 : Int32).toNatClampNeg (0 : Int32).toNatClampNeg (256 : Int32).toNatClampNeg), (va_cpy v_p1_names v_names (0 : Int32).toNatClampNeg (0 : Int32).toNatClampNeg (24 : Int32).toNatClampNeg))
def F_X9_addSegment (x1 : Int32) (x2 : Int32) (v_segmentCount : Int32) (v_order : Nat → Int32) (v_durations : Nat → Int32) (v_pauses : Nat → Int32) (v_sizes : Nat → Int32) : Option (Int32 × (Int32) × (Nat → Int32) × (Nat → Int32) × (Nat → Int32) × (Nat → Int32)) := if v_segmentCount < (32 : Int32) then (gi v_segmentCount 32 (gi v_segmentCount 32 (gi v_segmentCount 32 (gi v_segmentCount 32 (some ((1 : Int32), (v_segmentCount + (1 : Int32)), (upd v_order v_segmentCount.toNatClampNeg v_segmentCount), (upd v_durations v_segmentCount.toNatClampNeg x1), (upd v_pauses v_segmentCount.toNatClampNeg x2), (upd v_sizes v_segmentCount.toNatClampNeg (0 : Int32)))))))) else (some ((0 : Int32), v_segmentCount, v_order, v_durations, v_pauses, v_sizes))
def F_X9_boundaryCount (v_segmentCount : Int32) : Option (Int32) := if v_segmentCount ≤ 0 then (some (0 : Int32)) else (some (v_segmentCount - (1 : Int32)))
def F_X9_durationOf (x1 : Int32) (v_order : Nat → Int32) (v_durations : Nat → Int32) : Option (Int32) := gi x1 32 (gi (v_order x1.toNatClampNeg) 32 (some (v_durations (v_order x1.toNatClampNeg).toNatClampNeg)))
def F_X9_pauseOf (x1 : Int32) (v_order : Nat → Int32) (v_pauses : Nat → Int32) : Option (Int32) := gi x1 32 (gi (v_order x1.toNatClampNeg) 32 (some (v_pauses (v_order x1.toNatClampNeg).toNatClampNeg)))
def F_X9_sizeOf (x1 : Int32) (v_order : Nat → Int32) (v_sizes : Nat → Int32) : Option (Int32) := gi x1 32 (gi (v_order x1.toNatClampNeg) 32 (some (v_sizes (v_order x1.toNatClampNeg).toNatClampNeg)))
def F_X9_wordAt (x1 : Int32) (x2 : Int32) (v_order : Nat → Int32) (v_words : Nat → Int32) : Option (Int32) := gi x1 32 (gi (((v_order x1.toNatClampNeg) * (8 : Int32)) + x2) 256 (some (v_words (((v_order x1.toNatClampNeg) * (8 : Int32)) + x2).toNatClampNeg)))
def F_X9_changeDuration (x1 : Int32) (x2 : Int32) (v_order : Nat → Int32) (v_durations : Nat → Int32) : Option ((Nat → Int32)) := gi x1 32 (gi (v_order x1.toNatClampNeg) 32 (some (upd v_durations (v_order x1.toNatClampNeg).toNatClampNeg x2)))
def F_X9_changePause (x1 : Int32) (x2 : Int32) (v_order : Nat → Int32) (v_pauses : Nat → Int32) : Option ((Nat → Int32)) := gi x1 32 (gi (v_order x1.toNatClampNeg) 32 (some (upd v_pauses (v_order x1.toNatClampNeg).toNatClampNeg x2)))
def F_X9_putWord (x1 : Int32) (x2 : Int32) (v_order : Nat → Int32) (v_sizes : Nat → Int32) (v_words : Nat → Int32) : Option (Int32 × (Nat → Int32) × (Nat → Int32)) := gi x1 32 (gi (v_order x1.toNatClampNeg) 32 (if (v_sizes (v_order x1.toNatClampNeg).toNatClampNeg) < (8 : Int32) then (gi (v_order x1.toNatClampNeg) 32 (gi (((v_order x1.toNatClampNeg) * (8 : Int32)) + (v_sizes (v_order x1.toNatClampNeg).toNatClampNeg)) 256 (gi (v_order x1.toNatClampNeg) 32 (gi (v_order x1.toNatClampNeg) 32 (some ((1 : Int32), (upd v_sizes (v_order x1.toNatClampNeg).toNatClampNeg ((v_sizes (v_order x1.toNatClampNeg).toNatClampNeg) + (1 : Int32))), (upd v_words (((v_order x1.toNatClampNeg) * (8 : Int32)) + (v_sizes (v_order x1.toNatClampNeg).toNatClampNeg)).toNatClampNeg x2))))))) else (some ((0 : Int32), v_sizes, v_words))))
def S_X9_dropSegment_2 (v_segmentCount_2 : Int32) (k : Int32 × (Nat → Int32) → Option (((Nat → Int32)))) (l2_1 : Int32) (v_order_3 : Nat → Int32) : Option (((Nat → Int32))) := if (v_segmentCount_2 - (1 : Int32)) ≤ l2_1 then (some (v_order_3)) else (gi (l2_1 + (1 : Int32)) 32 (gi l2_1 32 (k ((l2_1 + (1 : Int32)), (upd v_order_3 l2_1.toNatClampNeg (v_order_3 (l2_1 + (1 : Int32)).toNatClampNeg))))))
def F_X9_dropSegment (x1 : Int32) (v_segmentCount : Int32) (v_order : Nat → Int32) : Option ((Int32) × (Nat → Int32)) := ob1 (wh (fun k q => S_X9_dropSegment_2 v_segmentCount k q.1 q.2) wF (x1, v_order)) (fun e_8 => some ((v_segmentCount - (1 : Int32)), e_8))
def S_X9_shiftSegment_10 (x1 : Int32) (x2 : Int32) (l3_2 : Int32) (k : Int32 × (Nat → Int32) → Option (((Nat → Int32)))) (l4_3 : Int32) (v_order_4 : Nat → Int32) : Option (((Nat → Int32))) := if x2 ≤ l4_3 then (some (v_order_4)) else (gi (l4_3 + (1 : Int32)) 32 (gi l4_3 32 (k ((l4_3 + (1 : Int32)), (upd v_order_4 l4_3.toNatClampNeg (v_order_4 (l4_3 + (1 : Int32)).toNatClampNeg))))))
def S_X9_shiftSegment_41 (x2 : Int32) (l3_10 : Int32) (k : Int32 × (Nat → Int32) → Option (((Nat → Int32)))) (l4_11 : Int32) (v_order_12 : Nat → Int32) : Option (((Nat → Int32))) := if l4_11 ≤ x2 then (some (v_order_12)) else (gi (l4_11 - (1 : Int32)) 32 (gi l4_11 32 (k ((l4_11 + (-1 : Int32)), (upd v_order_12 l4_11.toNatClampNeg (v_order_12 (l4_11 - (1 : Int32)).toNatClampNeg))))))
def F_X9_shiftSegment (x1 : Int32) (x2 : Int32) (v_order : Nat → Int32) : Option ((Nat → Int32)) := gi x1 32 (ob1 (wh (fun k q => S_X9_shiftSegment_10 x1 x2 (v_order x1.toNatClampNeg) k q.1 q.2) wF (x1, v_order)) (fun e_9 => ob1 (wh (fun k q => S_X9_shiftSegment_41 x2 (v_order x1.toNatClampNeg) k q.1 q.2) wF (x1, e_9)) (fun e_17 => gi x2 32 (some (upd e_17 x2.toNatClampNeg (v_order x1.toNatClampNeg))))))
def S_X9_startOf_4 (x1 : Int32) (v_order : Nat → Int32) (v_durations : Nat → Int32) (k : Int32 × Int32 → Option ((Int32))) (l2_1 : Int32) (l3_2 : Int32) : Option ((Int32)) := if x1 ≤ l3_2 then (some (l2_1)) else (ob1 (F_X9_durationOf l3_2 v_order v_durations) (fun r_3 => k ((l2_1 + r_3), (l3_2 + (1 : Int32)))))
def F_X9_startOf (x1 : Int32) (v_order : Nat → Int32) (v_durations : Nat → Int32) : Option (Int32) := ob1 (wh (fun k q => S_X9_startOf_4 x1 v_order v_durations k q.1 q.2) wF ((0 : Int32), (0 : Int32))) (fun e_6 => some e_6)
def S_X9_segmentSpokenAt_10 (x1 : Int32) (v_segmentCount : Int32) (v_order : Nat → Int32) (v_durations : Nat → Int32) (k : Int32 × Int32 → Option ((Int32) ⊕ (Unit))) (l2_1 : Int32) (l3_2 : Int32) : Option ((Int32) ⊕ (Unit)) := if v_segmentCount ≤ l3_2 then (some (.inr ())) else (ob1 (F_X9_durationOf l3_2 v_order v_durations) (fun r_3 => if (l2_1 + r_3) ≤ x1 then (k ((l2_1 + r_3), (l3_2 + (1 : Int32)))) else (some (.inl (l3_2)))))
def F_X9_segmentSpokenAt (x1 : Int32) (v_segmentCount : Int32) (v_order : Nat → Int32) (v_durations : Nat → Int32) : Option (Int32) := if 0 ≤ x1 then (ob1 (wh (fun k q => S_X9_segmentSpokenAt_10 x1 v_segmentCount v_order v_durations k q.1 q.2) wF ((0 : Int32), (0 : Int32))) (Sum.elim (un1 (fun e_7 => some e_7)) (un1 (fun _u => some (-1 : Int32))))) else (some (-1 : Int32))
def S_X9_segmentOfRow_2 (x1 : Int32) (v_segmentCount : Int32) (v_order : Nat → Int32) (k : Int32 → Option ((Int32) ⊕ (Unit))) (l2_1 : Int32) : Option ((Int32) ⊕ (Unit)) := if v_segmentCount ≤ l2_1 then (some (.inr ())) else (gi l2_1 32 (if (v_order l2_1.toNatClampNeg) = x1 then (some (.inl (l2_1))) else (k (l2_1 + (1 : Int32)))))
def F_X9_segmentOfRow (x1 : Int32) (v_segmentCount : Int32) (v_order : Nat → Int32) : Option (Int32) := ob1 (wh (fun k q => S_X9_segmentOfRow_2 x1 v_segmentCount v_order k q) wF (0 : Int32)) (Sum.elim (un1 (fun e_6 => some e_6)) (un1 (fun _u => some (-1 : Int32))))
def S_X9_allWords_4 (v_segmentCount : Int32) (v_order : Nat → Int32) (v_sizes : Nat → Int32) (k : Int32 × Int32 → Option ((Int32))) (l1_1 : Int32) (l2_2 : Int32) : Option ((Int32)) := if v_segmentCount ≤ l2_2 then (some (l1_1)) else (ob1 (F_X9_sizeOf l2_2 v_order v_sizes) (fun r_3 => k ((l1_1 + r_3), (l2_2 + (1 : Int32)))))
def F_X9_allWords (v_segmentCount : Int32) (v_order : Nat → Int32) (v_sizes : Nat → Int32) : Option (Int32) := ob1 (wh (fun k q => S_X9_allWords_4 v_segmentCount v_order v_sizes k q.1 q.2) wF ((0 : Int32), (0 : Int32))) (fun e_6 => some e_6)
def S_X9_longPauses_4 (x1 : Int32) (v_segmentCount : Int32) (v_order : Nat → Int32) (v_pauses : Nat → Int32) (k : Int32 × Int32 → Option ((Int32))) (l2_1 : Int32) (l3_2 : Int32) : Option ((Int32)) := ob1 (F_X9_boundaryCount v_segmentCount) (fun r_3 => if r_3 ≤ l3_2 then (some (l2_1)) else (ob1 (F_X9_pauseOf l3_2 v_order v_pauses) (fun r_4 => if r_4 < x1 then (k (l2_1, (l3_2 + (1 : Int32)))) else (k ((l2_1 + (1 : Int32)), (l3_2 + (1 : Int32)))))))
def F_X9_longPauses (x1 : Int32) (v_segmentCount : Int32) (v_order : Nat → Int32) (v_pauses : Nat → Int32) : Option (Int32) := ob1 (wh (fun k q => S_X9_longPauses_4 x1 v_segmentCount v_order v_pauses k q.1 q.2) wF ((0 : Int32), (0 : Int32))) (fun e_8 => some e_8)
def S_X9_numberOf_2 (x1 : Int64) (v_wordCount : Int32) (v_names : Nat → Int64) (k : Int32 → Option ((Int32) ⊕ (Unit))) (l3_1 : Int32) : Option ((Int32) ⊕ (Unit)) := if v_wordCount ≤ l3_1 then (some (.inr ())) else (gi l3_1 24 (if (lg_cmp (v_names l3_1.toNatClampNeg) x1) = 0 then (some (.inl (l3_1))) else (k (l3_1 + (1 : Int32)))))
def F_X9_numberOf (x1 : Int64) (v_wordCount : Int32) (v_names : Nat → Int64) : Option (Int32) := ob1 (wh (fun k q => S_X9_numberOf_2 x1 v_wordCount v_names k q) wF (0 : Int32)) (Sum.elim (un1 (fun e_6 => some e_6)) (un1 (fun _u => some (-1 : Int32))))
def F_X9_mention (x1 : Int64) (v_wordCount : Int32) (v_names : Nat → Int64) : Option (Int32 × (Int32) × (Nat → Int64)) := ob1 (F_X9_numberOf x1 v_wordCount v_names) (fun r_1 => if r_1 = (-1 : Int32) then (if v_wordCount < (24 : Int32) then (gi v_wordCount 24 (some (((v_wordCount + (1 : Int32)) - (1 : Int32)), (v_wordCount + (1 : Int32)), (vp_updL v_names v_wordCount.toNatClampNeg x1)))) else (some (r_1, v_wordCount, v_names))) else (some (r_1, v_wordCount, v_names)))
def S_X9_countIn_23 (x1 : Int32) (x3 : Int32) (l5_5 : Int32) (l6_6 : Int32) (v_order : Nat → Int32) (v_sizes : Nat → Int32) (v_words : Nat → Int32) (k : Int32 × Int32 → Option ((Int32))) (l4_4 : Int32) (l7_7 : Int32) : Option ((Int32)) := if l6_6 ≤ l7_7 then (some (l4_4)) else (ob1 (F_X9_wordAt l5_5 l7_7 v_order v_words) (fun r_8 => if r_8 = x1 then (k ((l4_4 + (1 : Int32)), (l7_7 + (1 : Int32)))) else (k (l4_4, (l7_7 + (1 : Int32))))))
def S_X9_countIn_6 (x1 : Int32) (x3 : Int32) (v_order : Nat → Int32) (v_sizes : Nat → Int32) (v_words : Nat → Int32) (k : Int32 × Int32 → Option ((Int32))) (l4_1 : Int32) (l5_2 : Int32) : Option ((Int32)) := if x3 < l5_2 then (some (l4_1)) else (ob1 (F_X9_sizeOf l5_2 v_order v_sizes) (fun r_3 => ob1 (wh (fun k q => S_X9_countIn_23 x1 x3 l5_2 r_3 v_order v_sizes v_words k q.1 q.2) wF (l4_1, (0 : Int32))) (fun e_12 => k (e_12, (l5_2 + (1 : Int32))))))
def F_X9_countIn (x1 : Int32) (x2 : Int32) (x3 : Int32) (v_order : Nat → Int32) (v_sizes : Nat → Int32) (v_words : Nat → Int32) : Option (Int32) := ob1 (wh (fun k q => S_X9_countIn_6 x1 x3 v_order v_sizes v_words k q.1 q.2) wF ((0 : Int32), x2)) (fun e_15 => some e_15)
def S_X9_tally_20 (n3 : Nat) (x2 : Int32) (x4 : Int32) (l5_4 : Int32) (l6_5 : Int32) (v_order : Nat → Int32) (v_sizes : Nat → Int32) (v_words : Nat → Int32) (k : Int32 × (Nat → Int32) → Option (((Nat → Int32)))) (l7_6 : Int32) (v_p3_7 : Nat → Int32) : Option (((Nat → Int32))) := if l6_5 ≤ l7_6 then (some (v_p3_7)) else (ob1 (F_X9_wordAt l5_4 l7_6 v_order v_words) (fun r_8 => gi (x4 + r_8) n3 (gi (x4 + r_8) n3 (k ((l7_6 + (1 : Int32)), (upd v_p3_7 (x4 + r_8).toNatClampNeg ((v_p3_7 (x4 + r_8).toNatClampNeg) + (1 : Int32))))))))
def S_X9_tally_3 (n3 : Nat) (x2 : Int32) (x4 : Int32) (v_order : Nat → Int32) (v_sizes : Nat → Int32) (v_words : Nat → Int32) (k : Int32 × (Nat → Int32) → Option (((Nat → Int32)))) (l5_1 : Int32) (v_p3_2 : Nat → Int32) : Option (((Nat → Int32))) := if x2 < l5_1 then (some (v_p3_2)) else (ob1 (F_X9_sizeOf l5_1 v_order v_sizes) (fun r_3 => ob1 (wh (fun k q => S_X9_tally_20 n3 x2 x4 l5_1 r_3 v_order v_sizes v_words k q.1 q.2) wF ((0 : Int32), v_p3_2)) (fun e_13 => k ((l5_1 + (1 : Int32)), e_13))))
def F_X9_tally (n3 : Nat) (x1 : Int32) (x2 : Int32) (x4 : Int32) (v_order : Nat → Int32) (v_sizes : Nat → Int32) (v_words : Nat → Int32) (v_p3 : Nat → Int32) : Option ((Nat → Int32)) := ob1 (wh (fun k q => S_X9_tally_3 n3 x2 x4 v_order v_sizes v_words k q.1 q.2) wF (x1, v_p3)) (fun e_16 => some e_16)
def F_X7_copyFrom (v_slotCount : Int32) (v_wishes : Nat → Int32) (v_lengths : Nat → Int32) (v_reaches : Nat → Int32) (v_p1_slotCount : Int32) (v_p1_wishes : Nat → Int32) (v_p1_lengths : Nat → Int32) (v_p1_reaches : Nat → Int32) : Option ((Int32) × (Nat → Int32) × (Nat → Int32) × (Nat → Int32)) := some (v_p1_slotCount, (va_cpy v_p1_wishes v_wishes (0 : Int32).toNatClampNeg (0 : Int32).toNatClampNeg (5 : Int32).toNatClampNeg), (va_cpy v_p1_lengths v_lengths (0 : Int32).toNatClampNeg (0 : Int32).toNatClampNeg (5 : Int32).toNatClampNeg), (va_cpy v_p1_reaches v_reaches (0 : Int32).toNatClampNeg (0 : Int32).toNatClampNeg (5 : Int32).toNatClampNeg))
def F_X7_take (x1 : Int32) (x2 : Int32) (v_wishes : Nat → Int32) (v_lengths : Nat → Int32) (v_reaches : Nat → Int32) : Option ((Nat → Int32) × (Nat → Int32) × (Nat → Int32)) := gi x2 5 (gi x1 5 (gi x2 5 (gi x1 5 (gi x2 5 (gi x1 5 (some ((upd v_wishes x1.toNatClampNeg (v_wishes x2.toNatClampNeg)), (upd v_lengths x1.toNatClampNeg (v_lengths x2.toNatClampNeg)), (upd v_reaches x1.toNatClampNeg (v_reaches x2.toNatClampNeg)))))))))
def F_X7_insert_b50 (x1 : Int32) (x2 : Int32) (x3 : Int32) (l4_1 : Int32) (v_slotCount_2 : Int32) (v_wishes_3 : Nat → Int32) (v_lengths_4 : Nat → Int32) (v_reaches_5 : Nat → Int32) : Option (Int32 × (Int32) × (Nat → Int32) × (Nat → Int32) × (Nat → Int32)) := gi l4_1 5 (gi l4_1 5 (gi l4_1 5 (some (l4_1, (v_slotCount_2 + (1 : Int32)), (upd v_wishes_3 l4_1.toNatClampNeg x1), (upd v_lengths_4 l4_1.toNatClampNeg x2), (upd v_reaches_5 l4_1.toNatClampNeg x3)))))
def S_X7_insert_16 (x1 : Int32) (x2 : Int32) (x3 : Int32) (v_slotCount_10 : Int32) (k : Int32 × (Nat → Int32) × (Nat → Int32) × (Nat → Int32) → Option ((Int32 × (Nat → Int32) × (Nat → Int32) × (Nat → Int32)))) (l4_9 : Int32) (v_wishes_11 : Nat → Int32) (v_lengths_12 : Nat → Int32) (v_reaches_13 : Nat → Int32) : Option ((Int32 × (Nat → Int32) × (Nat → Int32) × (Nat → Int32))) := if l4_9 ≤ 0 then (some (l4_9, v_wishes_11, v_lengths_12, v_reaches_13)) else (gi (l4_9 - (1 : Int32)) 5 (if (v_wishes_11 (l4_9 - (1 : Int32)).toNatClampNeg) ≤ x1 then (some (l4_9, v_wishes_11, v_lengths_12, v_reaches_13)) else (ob3 (F_X7_take l4_9 (l4_9 - (1 : Int32)) v_wishes_11 v_lengths_12 v_reaches_13) (fun v_wishes_15 v_lengths_16 v_reaches_17 => k ((l4_9 + (-1 : Int32)), v_wishes_15, v_lengths_16, v_reaches_17)))))
def F_X7_insert (x1 : Int32) (x2 : Int32) (x3 : Int32) (v_slotCount : Int32) (v_wishes : Nat → Int32) (v_lengths : Nat → Int32) (v_reaches : Nat → Int32) : Option (Int32 × (Int32) × (Nat → Int32) × (Nat → Int32) × (Nat → Int32)) := if v_slotCount < (5 : Int32) then (ob4 (wh (fun k q => S_X7_insert_16 x1 x2 x3 v_slotCount k q.1 q.2.1 q.2.2.1 q.2.2.2) wF (v_slotCount, v_wishes, v_lengths, v_reaches)) (fun e_24 e_25 e_26 e_27 => F_X7_insert_b50 x1 x2 x3 e_24 v_slotCount e_25 e_26 e_27)) else (some ((-1 : Int32), v_slotCount, v_wishes, v_lengths, v_reaches))
def S_X7_drop_2 (v_slotCount_2 : Int32) (k : Int32 × (Nat → Int32) × (Nat → Int32) × (Nat → Int32) → Option (((Nat → Int32) × (Nat → Int32) × (Nat → Int32)))) (l2_1 : Int32) (v_wishes_3 : Nat → Int32) (v_lengths_4 : Nat → Int32) (v_reaches_5 : Nat → Int32) : Option (((Nat → Int32) × (Nat → Int32) × (Nat → Int32))) := if (v_slotCount_2 - (1 : Int32)) ≤ l2_1 then (some (v_wishes_3, v_lengths_4, v_reaches_5)) else (ob3 (F_X7_take l2_1 (l2_1 + (1 : Int32)) v_wishes_3 v_lengths_4 v_reaches_5) (fun v_wishes_6 v_lengths_7 v_reaches_8 => k ((l2_1 + (1 : Int32)), v_wishes_6, v_lengths_7, v_reaches_8)))
def F_X7_drop (x1 : Int32) (v_slotCount : Int32) (v_wishes : Nat → Int32) (v_lengths : Nat → Int32) (v_reaches : Nat → Int32) : Option ((Int32) × (Nat → Int32) × (Nat → Int32) × (Nat → Int32)) := ob3 (wh (fun k q => S_X7_drop_2 v_slotCount k q.1 q.2.1 q.2.2.1 q.2.2.2) wF (x1, v_wishes, v_lengths, v_reaches)) (fun e_13 e_14 e_15 => some ((v_slotCount - (1 : Int32)), e_13, e_14, e_15))
def F_X2_copyFrom (v_exists : Int32) (v_segmentCount : Int32) (v_total : Int32) (v_rows : Nat → Int32) (v_starts : Nat → Int32) (v_durations : Nat → Int32) (v_p1_exists : Int32) (v_p1_segmentCount : Int32) (v_p1_total : Int32) (v_p1_rows : Nat → Int32) (v_p1_starts : Nat → Int32) (v_p1_durations : Nat → Int32) : Option ((Int32) × (Int32) × (Int32) × (Nat → Int32) × (Nat → Int32) × (Nat → Int32)) := gb v_p1_exists (some (v_p1_exists, v_p1_segmentCount, v_p1_total, (va_cpy v_p1_rows v_rows (0 : Int32).toNatClampNeg (0 : Int32).toNatClampNeg (32 : Int32).toNatClampNeg), (va_cpy v_p1_starts v_starts (0 : Int32).toNatClampNeg (0 : Int32).toNatClampNeg (32 : Int32).toNatClampNeg), (va_cpy v_p1_durations v_durations (0 : Int32).toNatClampNeg (0 : Int32).toNatClampNeg (32 : Int32).toNatClampNeg)))
def S_X2_takeVersion_20 (v_exists_2 : Int32) (v_segmentCount_3 : Int32) (v_p1_order : Nat → Int32) (v_p1_durations : Nat → Int32) (k : Int32 × (Int32) × (Nat → Int32) × (Nat → Int32) × (Nat → Int32) → Option (((Int32) × (Nat → Int32) × (Nat → Int32) × (Nat → Int32)))) (l2_1 : Int32) (v_total_4 : Int32) (v_rows_5 : Nat → Int32) (v_starts_6 : Nat → Int32) (v_durations_7 : Nat → Int32) : Option (((Int32) × (Nat → Int32) × (Nat → Int32) × (Nat → Int32))) := if v_segmentCount_3 ≤ l2_1 then (some (v_total_4, v_rows_5, v_starts_6, v_durations_7)) else (gi l2_1 32 (gi l2_1 32 (gi l2_1 32 (ob1 (F_X9_durationOf l2_1 v_p1_order v_p1_durations) (fun r_11 => gi l2_1 32 (gi l2_1 32 (k ((l2_1 + (1 : Int32)), (v_total_4 + ((upd v_durations_7 l2_1.toNatClampNeg r_11) l2_1.toNatClampNeg)), (upd v_rows_5 l2_1.toNatClampNeg (v_p1_order l2_1.toNatClampNeg)), (upd v_starts_6 l2_1.toNatClampNeg v_total_4), (upd v_durations_7 l2_1.toNatClampNeg r_11)))))))))
def F_X2_takeVersion (v_exists : Int32) (v_segmentCount : Int32) (v_total : Int32) (v_rows : Nat → Int32) (v_starts : Nat → Int32) (v_durations : Nat → Int32) (v_p1_segmentCount : Int32) (v_p1_order : Nat → Int32) (v_p1_durations : Nat → Int32) : Option ((Int32) × (Int32) × (Int32) × (Nat → Int32) × (Nat → Int32) × (Nat → Int32)) := ob4 (wh (fun k q => S_X2_takeVersion_20 (1 : Int32) v_p1_segmentCount v_p1_order v_p1_durations k q.1 q.2.1 q.2.2.1 q.2.2.2.1 q.2.2.2.2) wF ((0 : Int32), (0 : Int32), v_rows, v_starts, v_durations)) (fun e_19 e_20 e_21 e_22 => some ((1 : Int32), v_p1_segmentCount, e_19, e_20, e_21, e_22))
def S_X2_carry_2 (x1 : Int32) (v_segmentCount : Int32) (v_rows : Nat → Int32) (v_starts : Nat → Int32) (v_durations : Nat → Int32) (v_p2_segmentCount : Int32) (v_p2_order : Nat → Int32) (v_p2_durations : Nat → Int32) (k : Int32 → Option ((Int32 × Int32) ⊕ (Unit))) (l3_1 : Int32) : Option ((Int32 × Int32) ⊕ (Unit)) := if v_segmentCount ≤ l3_1 then (some (.inr ())) else (gi l3_1 32 (gi l3_1 32 (if x1 < ((v_starts l3_1.toNatClampNeg) + (v_durations l3_1.toNatClampNeg)) then (gi l3_1 32 (ob1 (F_X9_segmentOfRow (v_rows l3_1.toNatClampNeg) v_p2_segmentCount v_p2_order) (fun r_5 => if r_5 = (-1 : Int32) then (k (l3_1 + (1 : Int32))) else (some (.inl (l3_1, r_5)))))) else (k (l3_1 + (1 : Int32))))))
def F_X2_carry (x1 : Int32) (v_segmentCount : Int32) (v_rows : Nat → Int32) (v_starts : Nat → Int32) (v_durations : Nat → Int32) (v_p2_segmentCount : Int32) (v_p2_order : Nat → Int32) (v_p2_durations : Nat → Int32) : Option (Int32) := ob1 (wh (fun k q => S_X2_carry_2 x1 v_segmentCount v_rows v_starts v_durations v_p2_segmentCount v_p2_order v_p2_durations k q) wF (0 : Int32)) (Sum.elim (un2 (fun e_11 e_12 => gi e_11 32 (ob1 (F_X9_startOf e_12 v_p2_order v_p2_durations) (fun r_14 => ob1 (F_X9_durationOf e_12 v_p2_order v_p2_durations) (fun r_15 => some (r_14 + (if r_15 < (if (0 : Int32) < (x1 - (v_starts e_11.toNatClampNeg)) then (x1 - (v_starts e_11.toNatClampNeg)) else (0 : Int32)) then r_15 else (if (0 : Int32) < (x1 - (v_starts e_11.toNatClampNeg)) then (x1 - (v_starts e_11.toNatClampNeg)) else (0 : Int32))))))))) (un1 (fun _u => ob1 (F_X9_startOf v_p2_segmentCount v_p2_order v_p2_durations) (fun r_17 => some r_17))))
def F_X3_clear (v_length : Int32) : Option ((Int32)) := some (0 : Int32)
def F_X3_put (x1 : Int32) (v_length : Int32) (v_bytes : Nat → Int32) : Option ((Int32) × (Nat → Int32)) := if (1056 : Int32) ≤ v_length then (some (v_length, v_bytes)) else (gi v_length 1056 (some ((v_length + (1 : Int32)), (upd v_bytes v_length.toNatClampNeg x1))))
def F_X3_putNumber_b31 (k : Int32 × (Int32) × (Nat → Int32) → Option (((Int32) × (Nat → Int32)))) (x1 : Int32) (l2_4 : Int32) (v_length_5 : Int32) (v_bytes_6 : Nat → Int32) : Option (((Int32) × (Nat → Int32))) := gzi (10 : Int32) (k ((l2_4 / (10 : Int32)), v_length_5, v_bytes_6))
def F_X3_putNumber_b17 (k : Int32 × (Int32) × (Nat → Int32) → Option (((Int32) × (Nat → Int32)))) (x1 : Int32) (l2_8 : Int32) (v_length_9 : Int32) (v_bytes_10 : Nat → Int32) : Option (((Int32) × (Nat → Int32))) := gzi l2_8 (gzi (10 : Int32) (ob2 (F_X3_put ((((48 : Int32) + ((x1 / l2_8) - (x1 / l2_8) / (10 : Int32) * (10 : Int32))).toUInt32 % 65536).toInt32) v_length_9 v_bytes_10) (fun v_length_13 v_bytes_14 => F_X3_putNumber_b31 k x1 l2_8 v_length_13 v_bytes_14)))
def S_X3_putNumber_3 (x1 : Int32) (k : Int32 × (Int32) × (Nat → Int32) → Option (((Int32) × (Nat → Int32)))) (l2_1 : Int32) (v_length_2 : Int32) (v_bytes_3 : Nat → Int32) : Option (((Int32) × (Nat → Int32))) := if l2_1 ≤ 0 then (some (v_length_2, v_bytes_3)) else (if l2_1 ≤ x1 then (F_X3_putNumber_b17 k x1 l2_1 v_length_2 v_bytes_3) else (if l2_1 = (1 : Int32) then (F_X3_putNumber_b17 k x1 l2_1 v_length_2 v_bytes_3) else (F_X3_putNumber_b31 k x1 l2_1 v_length_2 v_bytes_3)))
def F_X3_putNumber (x1 : Int32) (v_length : Int32) (v_bytes : Nat → Int32) : Option ((Int32) × (Nat → Int32)) := ob2 (wh (fun k q => S_X3_putNumber_3 x1 k q.1 q.2.1 q.2.2) wF ((1000000000 : Int32), v_length, v_bytes)) (fun e_20 e_21 => some (e_20, e_21))
def S_X3_putName_3 (x1 : Int64) (k : Int32 × (Int32) × (Nat → Int32) → Option (((Int32) × (Nat → Int32)))) (l3_1 : Int32) (v_length_2 : Int32) (v_bytes_3 : Nat → Int32) : Option (((Int32) × (Nat → Int32))) := if l3_1 < 0 then (some (v_length_2, v_bytes_3)) else (if ((((x1.toUInt64 >>> (l3_1.toInt64.toUInt64 &&& Int64.toUInt64 63)).toInt64) &&& (31 : Int64)).toInt32) ≤ 0 then (k ((l3_1 + (-5 : Int32)), v_length_2, v_bytes_3)) else (ob2 (F_X3_put ((((96 : Int32) + ((((x1.toUInt64 >>> (l3_1.toInt64.toUInt64 &&& Int64.toUInt64 63)).toInt64) &&& (31 : Int64)).toInt32)).toUInt32 % 65536).toInt32) v_length_2 v_bytes_3) (fun v_length_4 v_bytes_5 => k ((l3_1 + (-5 : Int32)), v_length_4, v_bytes_5))))
def F_X3_putName (x1 : Int64) (v_length : Int32) (v_bytes : Nat → Int32) : Option ((Int32) × (Nat → Int32)) := ob2 (wh (fun k q => S_X3_putName_3 x1 k q.1 q.2.1 q.2.2) wF ((35 : Int32), v_length, v_bytes)) (fun e_10 e_11 => some (e_10, e_11))
def F_X6_copyFrom (v_transcript_segmentCount : Int32) (v_transcript_wordCount : Int32) (v_transcript_order : Nat → Int32) (v_transcript_durations : Nat → Int32) (v_transcript_pauses : Nat → Int32) (v_transcript_sizes : Nat → Int32) (v_transcript_words : Nat → Int32) (v_transcript_names : Nat → Int64) (v_slots_slotCount : Int32) (v_slots_wishes : Nat → Int32) (v_slots_lengths : Nat → Int32) (v_slots_reaches : Nat → Int32) (v_kept_exists : Int32) (v_kept_segmentCount : Int32) (v_kept_total : Int32) (v_kept_rows : Nat → Int32) (v_kept_starts : Nat → Int32) (v_kept_durations : Nat → Int32) (v_settings : Nat → Int32) (v_p1_transcript_segmentCount : Int32) (v_p1_transcript_wordCount : Int32) (v_p1_transcript_order : Nat → Int32) (v_p1_transcript_durations : Nat → Int32) (v_p1_transcript_pauses : Nat → Int32) (v_p1_transcript_sizes : Nat → Int32) (v_p1_transcript_words : Nat → Int32) (v_p1_transcript_names : Nat → Int64) (v_p1_slots_slotCount : Int32) (v_p1_slots_wishes : Nat → Int32) (v_p1_slots_lengths : Nat → Int32) (v_p1_slots_reaches : Nat → Int32) (v_p1_kept_exists : Int32) (v_p1_kept_segmentCount : Int32) (v_p1_kept_total : Int32) (v_p1_kept_rows : Nat → Int32) (v_p1_kept_starts : Nat → Int32) (v_p1_kept_durations : Nat → Int32) (v_p1_settings : Nat → Int32) : Option ((Int32) × (Int32) × (Nat → Int32) × (Nat → Int32) × (Nat → Int32) × (Nat → Int32) × (Nat → Int32) × (Nat → Int64) × (Int32) × (Nat → Int32) × (Nat → Int32) × (Nat → Int32) × (Int32) × (Int32) × (Int32) × (Nat → Int32) × (Nat → Int32) × (Nat → Int32) × (Nat → Int32)) := ob8 (F_X9_copyFrom v_transcript_segmentCount v_transcript_wordCount v_transcript_order v_transcript_durations v_transcript_pauses v_transcript_sizes v_transcript_words v_transcript_names v_p1_transcript_segmentCount v_p1_transcript_wordCount v_p1_transcript_order v_p1_transcript_durations v_p1_transcript_pauses v_p1_transcript_sizes v_p1_transcript_words v_p1_transcript_names) (fun v_transcript_segmentCount_1 v_transcript_wordCount_2 v_transcript_order_3 v_transcript_durations_4 v_transcript_pauses_5 v_transcript_sizes_6 v_transcript_words_7 v_transcript_names_8 => ob4 (F_X7_copyFrom v_slots_slotCount v_slots_wishes v_slots_lengths v_slots_reaches v_p1_slots_slotCount v_p1_slots_wishes v_p1_slots_lengths v_p1_slots_reaches) (fun v_slots_slotCount_9 v_slots_wishes_10 v_slots_lengths_11 v_slots_reaches_12 => ob6 (F_X2_copyFrom v_kept_exists v_kept_segmentCount v_kept_total v_kept_rows v_kept_starts v_kept_durations v_p1_kept_exists v_p1_kept_segmentCount v_p1_kept_total v_p1_kept_rows v_p1_kept_starts v_p1_kept_durations) (fun v_kept_exists_13 v_kept_segmentCount_14 v_kept_total_15 v_kept_rows_16 v_kept_starts_17 v_kept_durations_18 => some (v_transcript_segmentCount_1, v_transcript_wordCount_2, v_transcript_order_3, v_transcript_durations_4, v_transcript_pauses_5, v_transcript_sizes_6, v_transcript_words_7, v_transcript_names_8, v_slots_slotCount_9, v_slots_wishes_10, v_slots_lengths_11, v_slots_reaches_12, v_kept_exists_13, v_kept_segmentCount_14, v_kept_total_15, v_kept_rows_16, v_kept_starts_17, v_kept_durations_18, (va_cpy v_p1_settings v_settings (0 : Int32).toNatClampNeg (0 : Int32).toNatClampNeg (6 : Int32).toNatClampNeg)))))
def F_X6_clear (v_transcript_segmentCount : Int32) (v_transcript_wordCount : Int32) (v_slots_slotCount : Int32) (v_kept_exists : Int32) (v_settings : Nat → Int32) : Option ((Int32) × (Int32) × (Int32) × (Int32) × (Nat → Int32)) := ob2 (F_X9_clear v_transcript_segmentCount v_transcript_wordCount) (fun v_transcript_segmentCount_1 v_transcript_wordCount_2 => some (v_transcript_segmentCount_1, v_transcript_wordCount_2, (0 : Int32), (0 : Int32), (va_cpy gq_first v_settings (0 : Int32).toNatClampNeg (0 : Int32).toNatClampNeg (6 : Int32).toNatClampNeg)))
theorem hy_X9_clear : yX9_clear.cls = RX9 ∧ yX9_clear.cls ≠ "java/lang/invoke/MethodHandle" ∧ yX9_clear.cls ≠ "java/lang/invoke/VarHandle" ∧ (parseMethodDescriptor yX9_clear.desc).map (fun d => d.parameters.length) = some 0 := by decide +kernel
set_option maxRecDepth 20000 in
set_option maxHeartbeats 4000000 in
theorem k_X9_clear (l : Launch) (D : va_G) (cI cJ cZ cO : ClassId) (z : Nat → Nat)   (h_t_ : Nat) (h_order : Nat) (h_durations : Nat) (h_pauses : Nat) (h_sizes : Nat) (h_words : Nat) (h_names : Nat)  (v_segmentCount : Int32) (v_wordCount : Int32) (w_segmentCount : Int32) (w_wordCount : Int32) (hF : F_X9_clear v_segmentCount v_wordCount = some (w_segmentCount, w_wordCount)) : Mv l yX9_clear wsX9_clear (rmD 0) D (gq_ty cI cJ cZ cO) z [.ref h_t_] [(h_t_, .inr (9, [.int v_segmentCount, .int v_wordCount, .ref h_order, .ref h_durations, .ref h_pauses, .ref h_sizes, .ref h_words, .ref h_names]))] [(h_t_, .inr (9, [.int w_segmentCount, .int w_wordCount, .ref h_order, .ref h_durations, .ref h_pauses, .ref h_sizes, .ref h_words, .ref h_names]))] 0 0 := by
  refine Mv.of (cc := cX9_clear) (maxL := 1) (by decide) rfl (Nat.le_of_ble_eq_true rfl) ⟨Nat.le_refl 0, Nat.le_refl 0⟩ ?_
  intro p e s m args below meth c A hC ha
  have hin_X9 : ∀ w ∈ wsX90, w ∈ wsX9_clear := by decide +kernel
  have hw_31 : Cond.fieldLink RX9 31 (TX9 0).1 (TX9 0).2.1 (TX9 0).2.2.1 ∈ wsX9_clear := by decide +kernel
  have hw_35 : Cond.fieldLink RX9 35 (TX9 1).1 (TX9 1).2.1 (TX9 1).2.2.1 ∈ wsX9_clear := by decide +kernel
  obtain ⟨Q, hQ⟩ : ∃ Q, Q = gq_Qv below D A args s [(h_t_, .inr (9, [.int w_segmentCount, .int w_wordCount, .ref h_order, .ref h_durations, .ref h_pauses, .ref h_sizes, .ref h_words, .ref h_names]))] 0 0 := ⟨_, rfl⟩
  rw [← hQ]
  refine gq_loc [(0, .ref h_t_)] rfl ?_
  unfold F_X9_clear at hF
  refine gq_aload_n hC 0 dX9_clear_0 rfl rfl ?_
  refine gq_iconst hC (0 : Int32) dX9_clear_1 (by decide) ?_
  refine gq_put1 hC (kf := 0) 0 [(h_t_, .inr (9, [.int (0 : Int32), .int v_wordCount, .ref h_order, .ref h_durations, .ref h_pauses, .ref h_sizes, .ref h_words, .ref h_names]))] tyX9 tyX9_ok nmX9 hin_X9 rfl rfl (by decide) hw_31 rfl rfl rfl (Nat.le_of_ble_eq_true rfl) dX9_clear_2 rfl ?_
  refine gq_aload_n hC 0 dX9_clear_5 rfl rfl ?_
  refine gq_iconst hC (0 : Int32) dX9_clear_6 (by decide) ?_
  refine gq_put1 hC (kf := 1) 0 [(h_t_, .inr (9, [.int (0 : Int32), .int (0 : Int32), .ref h_order, .ref h_durations, .ref h_pauses, .ref h_sizes, .ref h_words, .ref h_names]))] tyX9 tyX9_ok nmX9 hin_X9 rfl rfl (by decide) hw_35 rfl rfl rfl (Nat.le_of_ble_eq_true rfl) dX9_clear_7 rfl ?_
  cases hF
  rw [hQ]
  exact gq_vret hC dX9_clear_10
theorem hy_X9_copyFrom : yX9_copyFrom.cls = RX9 ∧ yX9_copyFrom.cls ≠ "java/lang/invoke/MethodHandle" ∧ yX9_copyFrom.cls ≠ "java/lang/invoke/VarHandle" ∧ (parseMethodDescriptor yX9_copyFrom.desc).map (fun d => d.parameters.length) = some 1 := by decide +kernel
set_option maxRecDepth 20000 in
set_option maxHeartbeats 4000000 in
theorem k_X9_copyFrom (l : Launch) (D : va_G) (cI cJ cZ cO : ClassId) (z : Nat → Nat)   (h_t_ : Nat) (h_order : Nat) (h_durations : Nat) (h_pauses : Nat) (h_sizes : Nat) (h_words : Nat) (h_names : Nat) (h_p1 : Nat) (h_p1_order : Nat) (h_p1_durations : Nat) (h_p1_pauses : Nat) (h_p1_sizes : Nat) (h_p1_words : Nat) (h_p1_names : Nat)  (v_segmentCount : Int32) (v_wordCount : Int32) (v_order : Nat → Int32) (v_durations : Nat → Int32) (v_pauses : Nat → Int32) (v_sizes : Nat → Int32) (v_words : Nat → Int32) (v_names : Nat → Int64) (v_p1_segmentCount : Int32) (v_p1_wordCount : Int32) (v_p1_order : Nat → Int32) (v_p1_durations : Nat → Int32) (v_p1_pauses : Nat → Int32) (v_p1_sizes : Nat → Int32) (v_p1_words : Nat → Int32) (v_p1_names : Nat → Int64) (w_segmentCount : Int32) (w_wordCount : Int32) (w_order : Nat → Int32) (w_durations : Nat → Int32) (w_pauses : Nat → Int32) (w_sizes : Nat → Int32) (w_words : Nat → Int32) (w_names : Nat → Int64) (hF : F_X9_copyFrom v_segmentCount v_wordCount v_order v_durations v_pauses v_sizes v_words v_names v_p1_segmentCount v_p1_wordCount v_p1_order v_p1_durations v_p1_pauses v_p1_sizes v_p1_words v_p1_names = some (w_segmentCount, w_wordCount, w_order, w_durations, w_pauses, w_sizes, w_words, w_names)) : Mv l yX9_copyFrom wsX9_copyFrom (rmD 1) D (gq_ty cI cJ cZ cO) z [.ref h_t_, .ref h_p1] [(h_t_, .inr (9, [.int v_segmentCount, .int v_wordCount, .ref h_order, .ref h_durations, .ref h_pauses, .ref h_sizes, .ref h_words, .ref h_names])), (h_order, .inl (cI, 32, .inl v_order)), (h_durations, .inl (cI, 32, .inl v_durations)), (h_pauses, .inl (cI, 32, .inl v_pauses)), (h_sizes, .inl (cI, 32, .inl v_sizes)), (h_words, .inl (cI, 256, .inl v_words)), (h_names, .inl (cJ, 24, .inr (.inl v_names))), (h_p1, .inr (9, [.int v_p1_segmentCount, .int v_p1_wordCount, .ref h_p1_order, .ref h_p1_durations, .ref h_p1_pauses, .ref h_p1_sizes, .ref h_p1_words, .ref h_p1_names])), (h_p1_order, .inl (cI, 32, .inl v_p1_order)), (h_p1_durations, .inl (cI, 32, .inl v_p1_durations)), (h_p1_pauses, .inl (cI, 32, .inl v_p1_pauses)), (h_p1_sizes, .inl (cI, 32, .inl v_p1_sizes)), (h_p1_words, .inl (cI, 256, .inl v_p1_words)), (h_p1_names, .inl (cJ, 24, .inr (.inl v_p1_names)))] [(h_t_, .inr (9, [.int w_segmentCount, .int w_wordCount, .ref h_order, .ref h_durations, .ref h_pauses, .ref h_sizes, .ref h_words, .ref h_names])), (h_order, .inl (cI, 32, .inl w_order)), (h_durations, .inl (cI, 32, .inl w_durations)), (h_pauses, .inl (cI, 32, .inl w_pauses)), (h_sizes, .inl (cI, 32, .inl w_sizes)), (h_words, .inl (cI, 256, .inl w_words)), (h_names, .inl (cJ, 24, .inr (.inl w_names))), (h_p1, .inr (9, [.int v_p1_segmentCount, .int v_p1_wordCount, .ref h_p1_order, .ref h_p1_durations, .ref h_p1_pauses, .ref h_p1_sizes, .ref h_p1_words, .ref h_p1_names])), (h_p1_order, .inl (cI, 32, .inl v_p1_order)), (h_p1_durations, .inl (cI, 32, .inl v_p1_durations)), (h_p1_pauses, .inl (cI, 32, .inl v_p1_pauses)), (h_p1_sizes, .inl (cI, 32, .inl v_p1_sizes)), (h_p1_words, .inl (cI, 256, .inl v_p1_words)), (h_p1_names, .inl (cJ, 24, .inr (.inl v_p1_names)))] 0 0 := by
  refine Mv.of (cc := cX9_copyFrom) (maxL := 2) (by decide) rfl (Nat.le_of_ble_eq_true rfl) ⟨Nat.le_refl 0, Nat.le_refl 0⟩ ?_
  intro p e s m args below meth c A hC ha
  have hin_X9 : ∀ w ∈ wsX90, w ∈ wsX9_copyFrom := by decide +kernel
  have hw_9 : Cond.fieldLink RX9 9 (TX9 2).1 (TX9 2).2.1 (TX9 2).2.2.1 ∈ wsX9_copyFrom := by decide +kernel
  have hw_15 : Cond.fieldLink RX9 15 (TX9 3).1 (TX9 3).2.1 (TX9 3).2.2.1 ∈ wsX9_copyFrom := by decide +kernel
  have hw_18 : Cond.fieldLink RX9 18 (TX9 4).1 (TX9 4).2.1 (TX9 4).2.2.1 ∈ wsX9_copyFrom := by decide +kernel
  have hw_21 : Cond.fieldLink RX9 21 (TX9 5).1 (TX9 5).2.1 (TX9 5).2.2.1 ∈ wsX9_copyFrom := by decide +kernel
  have hw_24 : Cond.fieldLink RX9 24 (TX9 6).1 (TX9 6).2.1 (TX9 6).2.2.1 ∈ wsX9_copyFrom := by decide +kernel
  have hw_27 : Cond.fieldLink RX9 27 (TX9 7).1 (TX9 7).2.1 (TX9 7).2.2.1 ∈ wsX9_copyFrom := by decide +kernel
  have hw_31 : Cond.fieldLink RX9 31 (TX9 0).1 (TX9 0).2.1 (TX9 0).2.2.1 ∈ wsX9_copyFrom := by decide +kernel
  have hw_35 : Cond.fieldLink RX9 35 (TX9 1).1 (TX9 1).2.1 (TX9 1).2.2.1 ∈ wsX9_copyFrom := by decide +kernel
  obtain ⟨Q, hQ⟩ : ∃ Q, Q = gq_Qv below D A args s [(h_t_, .inr (9, [.int w_segmentCount, .int w_wordCount, .ref h_order, .ref h_durations, .ref h_pauses, .ref h_sizes, .ref h_words, .ref h_names])), (h_order, .inl (cI, 32, .inl w_order)), (h_durations, .inl (cI, 32, .inl w_durations)), (h_pauses, .inl (cI, 32, .inl w_pauses)), (h_sizes, .inl (cI, 32, .inl w_sizes)), (h_words, .inl (cI, 256, .inl w_words)), (h_names, .inl (cJ, 24, .inr (.inl w_names))), (h_p1, .inr (9, [.int v_p1_segmentCount, .int v_p1_wordCount, .ref h_p1_order, .ref h_p1_durations, .ref h_p1_pauses, .ref h_p1_sizes, .ref h_p1_words, .ref h_p1_names])), (h_p1_order, .inl (cI, 32, .inl v_p1_order)), (h_p1_durations, .inl (cI, 32, .inl v_p1_durations)), (h_p1_pauses, .inl (cI, 32, .inl v_p1_pauses)), (h_p1_sizes, .inl (cI, 32, .inl v_p1_sizes)), (h_p1_words, .inl (cI, 256, .inl v_p1_words)), (h_p1_names, .inl (cJ, 24, .inr (.inl v_p1_names)))] 0 0 := ⟨_, rfl⟩
  rw [← hQ]
  refine gq_loc [(0, .ref h_t_), (1, .ref h_p1)] rfl ?_
  unfold F_X9_copyFrom at hF
  refine gq_aload_n hC 0 dX9_copyFrom_0 rfl rfl ?_
  refine gq_aload_n hC 1 dX9_copyFrom_1 rfl rfl ?_
  refine gq_get hC (kf := 0) 7 hin_X9 rfl rfl (by decide) hw_31 rfl dX9_copyFrom_2 ?_
  refine gq_put1 hC (kf := 0) 0 [(h_t_, .inr (9, [.int v_p1_segmentCount, .int v_wordCount, .ref h_order, .ref h_durations, .ref h_pauses, .ref h_sizes, .ref h_words, .ref h_names])), (h_order, .inl (cI, 32, .inl v_order)), (h_durations, .inl (cI, 32, .inl v_durations)), (h_pauses, .inl (cI, 32, .inl v_pauses)), (h_sizes, .inl (cI, 32, .inl v_sizes)), (h_words, .inl (cI, 256, .inl v_words)), (h_names, .inl (cJ, 24, .inr (.inl v_names))), (h_p1, .inr (9, [.int v_p1_segmentCount, .int v_p1_wordCount, .ref h_p1_order, .ref h_p1_durations, .ref h_p1_pauses, .ref h_p1_sizes, .ref h_p1_words, .ref h_p1_names])), (h_p1_order, .inl (cI, 32, .inl v_p1_order)), (h_p1_durations, .inl (cI, 32, .inl v_p1_durations)), (h_p1_pauses, .inl (cI, 32, .inl v_p1_pauses)), (h_p1_sizes, .inl (cI, 32, .inl v_p1_sizes)), (h_p1_words, .inl (cI, 256, .inl v_p1_words)), (h_p1_names, .inl (cJ, 24, .inr (.inl v_p1_names)))] tyX9 tyX9_ok nmX9 hin_X9 rfl rfl (by decide) hw_31 rfl rfl rfl (Nat.le_of_ble_eq_true rfl) dX9_copyFrom_5 rfl ?_
  refine gq_aload_n hC 0 dX9_copyFrom_8 rfl rfl ?_
  refine gq_aload_n hC 1 dX9_copyFrom_9 rfl rfl ?_
  refine gq_get hC (kf := 1) 7 hin_X9 rfl rfl (by decide) hw_35 rfl dX9_copyFrom_10 ?_
  refine gq_put1 hC (kf := 1) 0 [(h_t_, .inr (9, [.int v_p1_segmentCount, .int v_p1_wordCount, .ref h_order, .ref h_durations, .ref h_pauses, .ref h_sizes, .ref h_words, .ref h_names])), (h_order, .inl (cI, 32, .inl v_order)), (h_durations, .inl (cI, 32, .inl v_durations)), (h_pauses, .inl (cI, 32, .inl v_pauses)), (h_sizes, .inl (cI, 32, .inl v_sizes)), (h_words, .inl (cI, 256, .inl v_words)), (h_names, .inl (cJ, 24, .inr (.inl v_names))), (h_p1, .inr (9, [.int v_p1_segmentCount, .int v_p1_wordCount, .ref h_p1_order, .ref h_p1_durations, .ref h_p1_pauses, .ref h_p1_sizes, .ref h_p1_words, .ref h_p1_names])), (h_p1_order, .inl (cI, 32, .inl v_p1_order)), (h_p1_durations, .inl (cI, 32, .inl v_p1_durations)), (h_p1_pauses, .inl (cI, 32, .inl v_p1_pauses)), (h_p1_sizes, .inl (cI, 32, .inl v_p1_sizes)), (h_p1_words, .inl (cI, 256, .inl v_p1_words)), (h_p1_names, .inl (cJ, 24, .inr (.inl v_p1_names)))] tyX9 tyX9_ok nmX9 hin_X9 rfl rfl (by decide) hw_35 rfl rfl rfl (Nat.le_of_ble_eq_true rfl) dX9_copyFrom_13 rfl ?_
  refine gq_aload_n hC 1 dX9_copyFrom_16 rfl rfl ?_
  refine gq_get hC (kf := 2) 7 hin_X9 rfl rfl (by decide) hw_9 rfl dX9_copyFrom_17 ?_
  refine gq_iconst hC (0 : Int32) dX9_copyFrom_20 (by decide) ?_
  refine gq_aload_n hC 0 dX9_copyFrom_21 rfl rfl ?_
  refine gq_get hC (kf := 2) 0 hin_X9 rfl rfl (by decide) hw_9 rfl dX9_copyFrom_22 ?_
  refine gq_iconst hC (0 : Int32) dX9_copyFrom_25 (by decide) ?_
  refine gq_bipush hC (32 : Int32) dX9_copyFrom_26 (by decide) ?_
  refine gq_copyi hC 8 1 0 [(h_t_, .inr (9, [.int v_p1_segmentCount, .int v_p1_wordCount, .ref h_order, .ref h_durations, .ref h_pauses, .ref h_sizes, .ref h_words, .ref h_names])), (h_order, .inl (cI, 32, .inl (va_cpy v_p1_order v_order (0 : Int32).toNatClampNeg (0 : Int32).toNatClampNeg (32 : Int32).toNatClampNeg))), (h_durations, .inl (cI, 32, .inl v_durations)), (h_pauses, .inl (cI, 32, .inl v_pauses)), (h_sizes, .inl (cI, 32, .inl v_sizes)), (h_words, .inl (cI, 256, .inl v_words)), (h_names, .inl (cJ, 24, .inr (.inl v_names))), (h_p1, .inr (9, [.int v_p1_segmentCount, .int v_p1_wordCount, .ref h_p1_order, .ref h_p1_durations, .ref h_p1_pauses, .ref h_p1_sizes, .ref h_p1_words, .ref h_p1_names])), (h_p1_order, .inl (cI, 32, .inl v_p1_order)), (h_p1_durations, .inl (cI, 32, .inl v_p1_durations)), (h_p1_pauses, .inl (cI, 32, .inl v_p1_pauses)), (h_p1_sizes, .inl (cI, 32, .inl v_p1_sizes)), (h_p1_words, .inl (cI, 256, .inl v_p1_words)), (h_p1_names, .inl (cJ, 24, .inr (.inl v_p1_names)))] ⟨by decide +kernel, by decide +kernel, by decide +kernel, by decide +kernel⟩ rfl rfl rfl (by decide) (by decide) (by decide) (by decide) (by decide) ⟨Nat.le_of_ble_eq_true rfl, by decide⟩ dX9_copyFrom_28 rfl ?_
  refine gq_aload_n hC 1 dX9_copyFrom_31 rfl rfl ?_
  refine gq_get hC (kf := 3) 7 hin_X9 rfl rfl (by decide) hw_15 rfl dX9_copyFrom_32 ?_
  refine gq_iconst hC (0 : Int32) dX9_copyFrom_35 (by decide) ?_
  refine gq_aload_n hC 0 dX9_copyFrom_36 rfl rfl ?_
  refine gq_get hC (kf := 3) 0 hin_X9 rfl rfl (by decide) hw_15 rfl dX9_copyFrom_37 ?_
  refine gq_iconst hC (0 : Int32) dX9_copyFrom_40 (by decide) ?_
  refine gq_bipush hC (32 : Int32) dX9_copyFrom_41 (by decide) ?_
  refine gq_copyi hC 9 2 0 [(h_t_, .inr (9, [.int v_p1_segmentCount, .int v_p1_wordCount, .ref h_order, .ref h_durations, .ref h_pauses, .ref h_sizes, .ref h_words, .ref h_names])), (h_order, .inl (cI, 32, .inl (va_cpy v_p1_order v_order (0 : Int32).toNatClampNeg (0 : Int32).toNatClampNeg (32 : Int32).toNatClampNeg))), (h_durations, .inl (cI, 32, .inl (va_cpy v_p1_durations v_durations (0 : Int32).toNatClampNeg (0 : Int32).toNatClampNeg (32 : Int32).toNatClampNeg))), (h_pauses, .inl (cI, 32, .inl v_pauses)), (h_sizes, .inl (cI, 32, .inl v_sizes)), (h_words, .inl (cI, 256, .inl v_words)), (h_names, .inl (cJ, 24, .inr (.inl v_names))), (h_p1, .inr (9, [.int v_p1_segmentCount, .int v_p1_wordCount, .ref h_p1_order, .ref h_p1_durations, .ref h_p1_pauses, .ref h_p1_sizes, .ref h_p1_words, .ref h_p1_names])), (h_p1_order, .inl (cI, 32, .inl v_p1_order)), (h_p1_durations, .inl (cI, 32, .inl v_p1_durations)), (h_p1_pauses, .inl (cI, 32, .inl v_p1_pauses)), (h_p1_sizes, .inl (cI, 32, .inl v_p1_sizes)), (h_p1_words, .inl (cI, 256, .inl v_p1_words)), (h_p1_names, .inl (cJ, 24, .inr (.inl v_p1_names)))] ⟨by decide +kernel, by decide +kernel, by decide +kernel, by decide +kernel⟩ rfl rfl rfl (by decide) (by decide) (by decide) (by decide) (by decide) ⟨Nat.le_of_ble_eq_true rfl, by decide⟩ dX9_copyFrom_43 rfl ?_
  refine gq_aload_n hC 1 dX9_copyFrom_46 rfl rfl ?_
  refine gq_get hC (kf := 4) 7 hin_X9 rfl rfl (by decide) hw_18 rfl dX9_copyFrom_47 ?_
  refine gq_iconst hC (0 : Int32) dX9_copyFrom_50 (by decide) ?_
  refine gq_aload_n hC 0 dX9_copyFrom_51 rfl rfl ?_
  refine gq_get hC (kf := 4) 0 hin_X9 rfl rfl (by decide) hw_18 rfl dX9_copyFrom_52 ?_
  refine gq_iconst hC (0 : Int32) dX9_copyFrom_55 (by decide) ?_
  refine gq_bipush hC (32 : Int32) dX9_copyFrom_56 (by decide) ?_
  refine gq_copyi hC 10 3 0 [(h_t_, .inr (9, [.int v_p1_segmentCount, .int v_p1_wordCount, .ref h_order, .ref h_durations, .ref h_pauses, .ref h_sizes, .ref h_words, .ref h_names])), (h_order, .inl (cI, 32, .inl (va_cpy v_p1_order v_order (0 : Int32).toNatClampNeg (0 : Int32).toNatClampNeg (32 : Int32).toNatClampNeg))), (h_durations, .inl (cI, 32, .inl (va_cpy v_p1_durations v_durations (0 : Int32).toNatClampNeg (0 : Int32).toNatClampNeg (32 : Int32).toNatClampNeg))), (h_pauses, .inl (cI, 32, .inl (va_cpy v_p1_pauses v_pauses (0 : Int32).toNatClampNeg (0 : Int32).toNatClampNeg (32 : Int32).toNatClampNeg))), (h_sizes, .inl (cI, 32, .inl v_sizes)), (h_words, .inl (cI, 256, .inl v_words)), (h_names, .inl (cJ, 24, .inr (.inl v_names))), (h_p1, .inr (9, [.int v_p1_segmentCount, .int v_p1_wordCount, .ref h_p1_order, .ref h_p1_durations, .ref h_p1_pauses, .ref h_p1_sizes, .ref h_p1_words, .ref h_p1_names])), (h_p1_order, .inl (cI, 32, .inl v_p1_order)), (h_p1_durations, .inl (cI, 32, .inl v_p1_durations)), (h_p1_pauses, .inl (cI, 32, .inl v_p1_pauses)), (h_p1_sizes, .inl (cI, 32, .inl v_p1_sizes)), (h_p1_words, .inl (cI, 256, .inl v_p1_words)), (h_p1_names, .inl (cJ, 24, .inr (.inl v_p1_names)))] ⟨by decide +kernel, by decide +kernel, by decide +kernel, by decide +kernel⟩ rfl rfl rfl (by decide) (by decide) (by decide) (by decide) (by decide) ⟨Nat.le_of_ble_eq_true rfl, by decide⟩ dX9_copyFrom_58 rfl ?_
  refine gq_aload_n hC 1 dX9_copyFrom_61 rfl rfl ?_
  refine gq_get hC (kf := 5) 7 hin_X9 rfl rfl (by decide) hw_21 rfl dX9_copyFrom_62 ?_
  refine gq_iconst hC (0 : Int32) dX9_copyFrom_65 (by decide) ?_
  refine gq_aload_n hC 0 dX9_copyFrom_66 rfl rfl ?_
  refine gq_get hC (kf := 5) 0 hin_X9 rfl rfl (by decide) hw_21 rfl dX9_copyFrom_67 ?_
  refine gq_iconst hC (0 : Int32) dX9_copyFrom_70 (by decide) ?_
  refine gq_bipush hC (32 : Int32) dX9_copyFrom_71 (by decide) ?_
  refine gq_copyi hC 11 4 0 [(h_t_, .inr (9, [.int v_p1_segmentCount, .int v_p1_wordCount, .ref h_order, .ref h_durations, .ref h_pauses, .ref h_sizes, .ref h_words, .ref h_names])), (h_order, .inl (cI, 32, .inl (va_cpy v_p1_order v_order (0 : Int32).toNatClampNeg (0 : Int32).toNatClampNeg (32 : Int32).toNatClampNeg))), (h_durations, .inl (cI, 32, .inl (va_cpy v_p1_durations v_durations (0 : Int32).toNatClampNeg (0 : Int32).toNatClampNeg (32 : Int32).toNatClampNeg))), (h_pauses, .inl (cI, 32, .inl (va_cpy v_p1_pauses v_pauses (0 : Int32).toNatClampNeg (0 : Int32).toNatClampNeg (32 : Int32).toNatClampNeg))), (h_sizes, .inl (cI, 32, .inl (va_cpy v_p1_sizes v_sizes (0 : Int32).toNatClampNeg (0 : Int32).toNatClampNeg (32 : Int32).toNatClampNeg))), (h_words, .inl (cI, 256, .inl v_words)), (h_names, .inl (cJ, 24, .inr (.inl v_names))), (h_p1, .inr (9, [.int v_p1_segmentCount, .int v_p1_wordCount, .ref h_p1_order, .ref h_p1_durations, .ref h_p1_pauses, .ref h_p1_sizes, .ref h_p1_words, .ref h_p1_names])), (h_p1_order, .inl (cI, 32, .inl v_p1_order)), (h_p1_durations, .inl (cI, 32, .inl v_p1_durations)), (h_p1_pauses, .inl (cI, 32, .inl v_p1_pauses)), (h_p1_sizes, .inl (cI, 32, .inl v_p1_sizes)), (h_p1_words, .inl (cI, 256, .inl v_p1_words)), (h_p1_names, .inl (cJ, 24, .inr (.inl v_p1_names)))] ⟨by decide +kernel, by decide +kernel, by decide +kernel, by decide +kernel⟩ rfl rfl rfl (by decide) (by decide) (by decide) (by decide) (by decide) ⟨Nat.le_of_ble_eq_true rfl, by decide⟩ dX9_copyFrom_73 rfl ?_
  refine gq_aload_n hC 1 dX9_copyFrom_76 rfl rfl ?_
  refine gq_get hC (kf := 6) 7 hin_X9 rfl rfl (by decide) hw_24 rfl dX9_copyFrom_77 ?_
  refine gq_iconst hC (0 : Int32) dX9_copyFrom_80 (by decide) ?_
  refine gq_aload_n hC 0 dX9_copyFrom_81 rfl rfl ?_
  refine gq_get hC (kf := 6) 0 hin_X9 rfl rfl (by decide) hw_24 rfl dX9_copyFrom_82 ?_
  refine gq_iconst hC (0 : Int32) dX9_copyFrom_85 (by decide) ?_
  refine gq_sipush hC (256 : Int32) dX9_copyFrom_86 (by decide) ?_
  refine gq_copyi hC 12 5 0 [(h_t_, .inr (9, [.int v_p1_segmentCount, .int v_p1_wordCount, .ref h_order, .ref h_durations, .ref h_pauses, .ref h_sizes, .ref h_words, .ref h_names])), (h_order, .inl (cI, 32, .inl (va_cpy v_p1_order v_order (0 : Int32).toNatClampNeg (0 : Int32).toNatClampNeg (32 : Int32).toNatClampNeg))), (h_durations, .inl (cI, 32, .inl (va_cpy v_p1_durations v_durations (0 : Int32).toNatClampNeg (0 : Int32).toNatClampNeg (32 : Int32).toNatClampNeg))), (h_pauses, .inl (cI, 32, .inl (va_cpy v_p1_pauses v_pauses (0 : Int32).toNatClampNeg (0 : Int32).toNatClampNeg (32 : Int32).toNatClampNeg))), (h_sizes, .inl (cI, 32, .inl (va_cpy v_p1_sizes v_sizes (0 : Int32).toNatClampNeg (0 : Int32).toNatClampNeg (32 : Int32).toNatClampNeg))), (h_words, .inl (cI, 256, .inl (va_cpy v_p1_words v_words (0 : Int32).toNatClampNeg (0 : Int32).toNatClampNeg (256 : Int32).toNatClampNeg))), (h_names, .inl (cJ, 24, .inr (.inl v_names))), (h_p1, .inr (9, [.int v_p1_segmentCount, .int v_p1_wordCount, .ref h_p1_order, .ref h_p1_durations, .ref h_p1_pauses, .ref h_p1_sizes, .ref h_p1_words, .ref h_p1_names])), (h_p1_order, .inl (cI, 32, .inl v_p1_order)), (h_p1_durations, .inl (cI, 32, .inl v_p1_durations)), (h_p1_pauses, .inl (cI, 32, .inl v_p1_pauses)), (h_p1_sizes, .inl (cI, 32, .inl v_p1_sizes)), (h_p1_words, .inl (cI, 256, .inl v_p1_words)), (h_p1_names, .inl (cJ, 24, .inr (.inl v_p1_names)))] ⟨by decide +kernel, by decide +kernel, by decide +kernel, by decide +kernel⟩ rfl rfl rfl (by decide) (by decide) (by decide) (by decide) (by decide) ⟨Nat.le_of_ble_eq_true rfl, by decide⟩ dX9_copyFrom_89 rfl ?_
  refine gq_aload_n hC 1 dX9_copyFrom_92 rfl rfl ?_
  refine gq_get hC (kf := 7) 7 hin_X9 rfl rfl (by decide) hw_27 rfl dX9_copyFrom_93 ?_
  refine gq_iconst hC (0 : Int32) dX9_copyFrom_96 (by decide) ?_
  refine gq_aload_n hC 0 dX9_copyFrom_97 rfl rfl ?_
  refine gq_get hC (kf := 7) 0 hin_X9 rfl rfl (by decide) hw_27 rfl dX9_copyFrom_98 ?_
  refine gq_iconst hC (0 : Int32) dX9_copyFrom_101 (by decide) ?_
  refine gq_bipush hC (24 : Int32) dX9_copyFrom_102 (by decide) ?_
  refine gq_copyl hC 13 6 1 [(h_t_, .inr (9, [.int v_p1_segmentCount, .int v_p1_wordCount, .ref h_order, .ref h_durations, .ref h_pauses, .ref h_sizes, .ref h_words, .ref h_names])), (h_order, .inl (cI, 32, .inl (va_cpy v_p1_order v_order (0 : Int32).toNatClampNeg (0 : Int32).toNatClampNeg (32 : Int32).toNatClampNeg))), (h_durations, .inl (cI, 32, .inl (va_cpy v_p1_durations v_durations (0 : Int32).toNatClampNeg (0 : Int32).toNatClampNeg (32 : Int32).toNatClampNeg))), (h_pauses, .inl (cI, 32, .inl (va_cpy v_p1_pauses v_pauses (0 : Int32).toNatClampNeg (0 : Int32).toNatClampNeg (32 : Int32).toNatClampNeg))), (h_sizes, .inl (cI, 32, .inl (va_cpy v_p1_sizes v_sizes (0 : Int32).toNatClampNeg (0 : Int32).toNatClampNeg (32 : Int32).toNatClampNeg))), (h_words, .inl (cI, 256, .inl (va_cpy v_p1_words v_words (0 : Int32).toNatClampNeg (0 : Int32).toNatClampNeg (256 : Int32).toNatClampNeg))), (h_names, .inl (cJ, 24, .inr (.inl (va_cpy v_p1_names v_names (0 : Int32).toNatClampNeg (0 : Int32).toNatClampNeg (24 : Int32).toNatClampNeg)))), (h_p1, .inr (9, [.int v_p1_segmentCount, .int v_p1_wordCount, .ref h_p1_order, .ref h_p1_durations, .ref h_p1_pauses, .ref h_p1_sizes, .ref h_p1_words, .ref h_p1_names])), (h_p1_order, .inl (cI, 32, .inl v_p1_order)), (h_p1_durations, .inl (cI, 32, .inl v_p1_durations)), (h_p1_pauses, .inl (cI, 32, .inl v_p1_pauses)), (h_p1_sizes, .inl (cI, 32, .inl v_p1_sizes)), (h_p1_words, .inl (cI, 256, .inl v_p1_words)), (h_p1_names, .inl (cJ, 24, .inr (.inl v_p1_names)))] ⟨by decide +kernel, by decide +kernel, by decide +kernel, by decide +kernel⟩ rfl rfl rfl (by decide) (by decide) (by decide) (by decide) (by decide) ⟨Nat.le_of_ble_eq_true rfl, by decide⟩ dX9_copyFrom_104 rfl ?_
  cases hF
  rw [hQ]
  exact gq_vret hC dX9_copyFrom_107
theorem hy_X9_addSegment : yX9_addSegment.cls = RX9 ∧ yX9_addSegment.cls ≠ "java/lang/invoke/MethodHandle" ∧ yX9_addSegment.cls ≠ "java/lang/invoke/VarHandle" ∧ (parseMethodDescriptor yX9_addSegment.desc).map (fun d => d.parameters.length) = some 2 := by decide +kernel
set_option maxRecDepth 20000 in
set_option maxHeartbeats 4000000 in
theorem k_X9_addSegment (l : Launch) (D : va_G) (cI cJ cZ cO : ClassId) (z : Nat → Nat)   (h_t_ : Nat) (h_order : Nat) (h_durations : Nat) (h_pauses : Nat) (h_sizes : Nat) (h_words : Nat) (h_names : Nat) (x1 : Int32) (x2 : Int32) (v_segmentCount : Int32) (v_wordCount : Int32) (v_order : Nat → Int32) (v_durations : Nat → Int32) (v_pauses : Nat → Int32) (v_sizes : Nat → Int32) (r_ : Int32) (w_segmentCount : Int32) (w_order : Nat → Int32) (w_durations : Nat → Int32) (w_pauses : Nat → Int32) (w_sizes : Nat → Int32) (hF : F_X9_addSegment x1 x2 v_segmentCount v_order v_durations v_pauses v_sizes = some (r_, w_segmentCount, w_order, w_durations, w_pauses, w_sizes)) : Mi l yX9_addSegment wsX9_addSegment (rmD 0) D (gq_ty cI cJ cZ cO) z [.ref h_t_, .int x1, .int x2] [(h_t_, .inr (9, [.int v_segmentCount, .int v_wordCount, .ref h_order, .ref h_durations, .ref h_pauses, .ref h_sizes, .ref h_words, .ref h_names])), (h_order, .inl (cI, 32, .inl v_order)), (h_durations, .inl (cI, 32, .inl v_durations)), (h_pauses, .inl (cI, 32, .inl v_pauses)), (h_sizes, .inl (cI, 32, .inl v_sizes))] r_ [(h_t_, .inr (9, [.int w_segmentCount, .int v_wordCount, .ref h_order, .ref h_durations, .ref h_pauses, .ref h_sizes, .ref h_words, .ref h_names])), (h_order, .inl (cI, 32, .inl w_order)), (h_durations, .inl (cI, 32, .inl w_durations)), (h_pauses, .inl (cI, 32, .inl w_pauses)), (h_sizes, .inl (cI, 32, .inl w_sizes))] 0 0 := by
  refine Mi.of (cc := cX9_addSegment) (maxL := 3) (by decide) rfl (Nat.le_of_ble_eq_true rfl) ⟨Nat.le_refl 0, Nat.le_refl 0⟩ ?_
  intro p e s m args below meth c A hC ha
  have hin_X9 : ∀ w ∈ wsX90, w ∈ wsX9_addSegment := by decide +kernel
  have hw_9 : Cond.fieldLink RX9 9 (TX9 2).1 (TX9 2).2.1 (TX9 2).2.2.1 ∈ wsX9_addSegment := by decide +kernel
  have hw_15 : Cond.fieldLink RX9 15 (TX9 3).1 (TX9 3).2.1 (TX9 3).2.2.1 ∈ wsX9_addSegment := by decide +kernel
  have hw_18 : Cond.fieldLink RX9 18 (TX9 4).1 (TX9 4).2.1 (TX9 4).2.2.1 ∈ wsX9_addSegment := by decide +kernel
  have hw_21 : Cond.fieldLink RX9 21 (TX9 5).1 (TX9 5).2.1 (TX9 5).2.2.1 ∈ wsX9_addSegment := by decide +kernel
  have hw_31 : Cond.fieldLink RX9 31 (TX9 0).1 (TX9 0).2.1 (TX9 0).2.2.1 ∈ wsX9_addSegment := by decide +kernel
  obtain ⟨Q, hQ⟩ : ∃ Q, Q = gq_Qi below D A args s r_ [(h_t_, .inr (9, [.int w_segmentCount, .int v_wordCount, .ref h_order, .ref h_durations, .ref h_pauses, .ref h_sizes, .ref h_words, .ref h_names])), (h_order, .inl (cI, 32, .inl w_order)), (h_durations, .inl (cI, 32, .inl w_durations)), (h_pauses, .inl (cI, 32, .inl w_pauses)), (h_sizes, .inl (cI, 32, .inl w_sizes))] 0 0 := ⟨_, rfl⟩
  rw [← hQ]
  refine gq_loc [(0, .ref h_t_), (1, .int x1), (2, .int x2)] rfl ?_
  unfold F_X9_addSegment at hF
  refine gq_aload_n hC 0 dX9_addSegment_0 rfl rfl ?_
  refine gq_get hC (kf := 0) 0 hin_X9 rfl rfl (by decide) hw_31 rfl dX9_addSegment_1 ?_
  refine gq_bipush hC (32 : Int32) dX9_addSegment_4 (by decide) ?_
  refine gq_icmp_lt hC 11 dX9_addSegment_6 (by decide) (fun hc_5 => ?_) (fun hc_5 => ?_)
  · have hF := (if_pos hc_5).symm.trans hF
    refine gq_aload_n hC 0 dX9_addSegment_11 rfl rfl ?_
    refine gq_get hC (kf := 2) 0 hin_X9 rfl rfl (by decide) hw_9 rfl dX9_addSegment_12 ?_
    refine gq_aload_n hC 0 dX9_addSegment_15 rfl rfl ?_
    refine gq_get hC (kf := 0) 0 hin_X9 rfl rfl (by decide) hw_31 rfl dX9_addSegment_16 ?_
    refine gq_aload_n hC 0 dX9_addSegment_19 rfl rfl ?_
    refine gq_get hC (kf := 0) 0 hin_X9 rfl rfl (by decide) hw_31 rfl dX9_addSegment_20 ?_
    obtain ⟨hi_1, hF⟩ := gi_e hF
    refine gq_iast hC 1 0 [(h_t_, .inr (9, [.int v_segmentCount, .int v_wordCount, .ref h_order, .ref h_durations, .ref h_pauses, .ref h_sizes, .ref h_words, .ref h_names])), (h_order, .inl (cI, 32, .inl (upd v_order v_segmentCount.toNatClampNeg v_segmentCount))), (h_durations, .inl (cI, 32, .inl v_durations)), (h_pauses, .inl (cI, 32, .inl v_pauses)), (h_sizes, .inl (cI, 32, .inl v_sizes))] rfl rfl hi_1 dX9_addSegment_23 rfl ?_
    refine gq_aload_n hC 0 dX9_addSegment_24 rfl rfl ?_
    refine gq_get hC (kf := 3) 0 hin_X9 rfl rfl (by decide) hw_15 rfl dX9_addSegment_25 ?_
    refine gq_aload_n hC 0 dX9_addSegment_28 rfl rfl ?_
    refine gq_get hC (kf := 0) 0 hin_X9 rfl rfl (by decide) hw_31 rfl dX9_addSegment_29 ?_
    refine gq_iload_n hC 1 dX9_addSegment_32 rfl rfl ?_
    obtain ⟨hi_2, hF⟩ := gi_e hF
    refine gq_iast hC 2 0 [(h_t_, .inr (9, [.int v_segmentCount, .int v_wordCount, .ref h_order, .ref h_durations, .ref h_pauses, .ref h_sizes, .ref h_words, .ref h_names])), (h_order, .inl (cI, 32, .inl (upd v_order v_segmentCount.toNatClampNeg v_segmentCount))), (h_durations, .inl (cI, 32, .inl (upd v_durations v_segmentCount.toNatClampNeg x1))), (h_pauses, .inl (cI, 32, .inl v_pauses)), (h_sizes, .inl (cI, 32, .inl v_sizes))] rfl rfl hi_2 dX9_addSegment_33 rfl ?_
    refine gq_aload_n hC 0 dX9_addSegment_34 rfl rfl ?_
    refine gq_get hC (kf := 4) 0 hin_X9 rfl rfl (by decide) hw_18 rfl dX9_addSegment_35 ?_
    refine gq_aload_n hC 0 dX9_addSegment_38 rfl rfl ?_
    refine gq_get hC (kf := 0) 0 hin_X9 rfl rfl (by decide) hw_31 rfl dX9_addSegment_39 ?_
    refine gq_iload_n hC 2 dX9_addSegment_42 rfl rfl ?_
    obtain ⟨hi_3, hF⟩ := gi_e hF
    refine gq_iast hC 3 0 [(h_t_, .inr (9, [.int v_segmentCount, .int v_wordCount, .ref h_order, .ref h_durations, .ref h_pauses, .ref h_sizes, .ref h_words, .ref h_names])), (h_order, .inl (cI, 32, .inl (upd v_order v_segmentCount.toNatClampNeg v_segmentCount))), (h_durations, .inl (cI, 32, .inl (upd v_durations v_segmentCount.toNatClampNeg x1))), (h_pauses, .inl (cI, 32, .inl (upd v_pauses v_segmentCount.toNatClampNeg x2))), (h_sizes, .inl (cI, 32, .inl v_sizes))] rfl rfl hi_3 dX9_addSegment_43 rfl ?_
    refine gq_aload_n hC 0 dX9_addSegment_44 rfl rfl ?_
    refine gq_get hC (kf := 5) 0 hin_X9 rfl rfl (by decide) hw_21 rfl dX9_addSegment_45 ?_
    refine gq_aload_n hC 0 dX9_addSegment_48 rfl rfl ?_
    refine gq_get hC (kf := 0) 0 hin_X9 rfl rfl (by decide) hw_31 rfl dX9_addSegment_49 ?_
    refine gq_iconst hC (0 : Int32) dX9_addSegment_52 (by decide) ?_
    obtain ⟨hi_4, hF⟩ := gi_e hF
    refine gq_iast hC 4 0 [(h_t_, .inr (9, [.int v_segmentCount, .int v_wordCount, .ref h_order, .ref h_durations, .ref h_pauses, .ref h_sizes, .ref h_words, .ref h_names])), (h_order, .inl (cI, 32, .inl (upd v_order v_segmentCount.toNatClampNeg v_segmentCount))), (h_durations, .inl (cI, 32, .inl (upd v_durations v_segmentCount.toNatClampNeg x1))), (h_pauses, .inl (cI, 32, .inl (upd v_pauses v_segmentCount.toNatClampNeg x2))), (h_sizes, .inl (cI, 32, .inl (upd v_sizes v_segmentCount.toNatClampNeg (0 : Int32))))] rfl rfl hi_4 dX9_addSegment_53 rfl ?_
    refine gq_aload_n hC 0 dX9_addSegment_54 rfl rfl ?_
    refine gq_dup hC dX9_addSegment_55 rfl ?_
    refine gq_get hC (kf := 0) 0 hin_X9 rfl rfl (by decide) hw_31 rfl dX9_addSegment_56 ?_
    refine gq_iconst hC (1 : Int32) dX9_addSegment_59 (by decide) ?_
    refine gq_iadd hC dX9_addSegment_60 ?_
    refine gq_put1 hC (kf := 0) 0 [(h_t_, .inr (9, [.int (v_segmentCount + (1 : Int32)), .int v_wordCount, .ref h_order, .ref h_durations, .ref h_pauses, .ref h_sizes, .ref h_words, .ref h_names])), (h_order, .inl (cI, 32, .inl (upd v_order v_segmentCount.toNatClampNeg v_segmentCount))), (h_durations, .inl (cI, 32, .inl (upd v_durations v_segmentCount.toNatClampNeg x1))), (h_pauses, .inl (cI, 32, .inl (upd v_pauses v_segmentCount.toNatClampNeg x2))), (h_sizes, .inl (cI, 32, .inl (upd v_sizes v_segmentCount.toNatClampNeg (0 : Int32))))] tyX9 tyX9_ok nmX9 hin_X9 rfl rfl (by decide) hw_31 rfl rfl rfl (Nat.le_of_ble_eq_true rfl) dX9_addSegment_61 rfl ?_
    refine gq_iconst hC (1 : Int32) dX9_addSegment_64 (by decide) ?_
    cases hF
    rw [hQ]
    exact gq_iret hC rfl dX9_addSegment_65
  · have hF := (if_neg hc_5).symm.trans hF
    refine gq_iconst hC (0 : Int32) dX9_addSegment_9 (by decide) ?_
    cases hF
    rw [hQ]
    exact gq_iret hC rfl dX9_addSegment_10
theorem hy_X9_boundaryCount : yX9_boundaryCount.cls = RX9 ∧ yX9_boundaryCount.cls ≠ "java/lang/invoke/MethodHandle" ∧ yX9_boundaryCount.cls ≠ "java/lang/invoke/VarHandle" ∧ (parseMethodDescriptor yX9_boundaryCount.desc).map (fun d => d.parameters.length) = some 0 := by decide +kernel
set_option maxRecDepth 20000 in
set_option maxHeartbeats 4000000 in
theorem k_X9_boundaryCount (l : Launch) (D : va_G) (cI cJ cZ cO : ClassId) (z : Nat → Nat)   (h_t_ : Nat) (h_order : Nat) (h_durations : Nat) (h_pauses : Nat) (h_sizes : Nat) (h_words : Nat) (h_names : Nat)  (v_segmentCount : Int32) (v_wordCount : Int32) (r_ : Int32) (hF : F_X9_boundaryCount v_segmentCount = some r_) : Mi l yX9_boundaryCount wsX9_boundaryCount (rmD 0) D (gq_ty cI cJ cZ cO) z [.ref h_t_] [(h_t_, .inr (9, [.int v_segmentCount, .int v_wordCount, .ref h_order, .ref h_durations, .ref h_pauses, .ref h_sizes, .ref h_words, .ref h_names]))] r_ [(h_t_, .inr (9, [.int v_segmentCount, .int v_wordCount, .ref h_order, .ref h_durations, .ref h_pauses, .ref h_sizes, .ref h_words, .ref h_names]))] 0 0 := by
  refine Mi.of (cc := cX9_boundaryCount) (maxL := 1) (by decide) rfl (Nat.le_of_ble_eq_true rfl) ⟨Nat.le_refl 0, Nat.le_refl 0⟩ ?_
  intro p e s m args below meth c A hC ha
  have hin_X9 : ∀ w ∈ wsX90, w ∈ wsX9_boundaryCount := by decide +kernel
  have hw_31 : Cond.fieldLink RX9 31 (TX9 0).1 (TX9 0).2.1 (TX9 0).2.2.1 ∈ wsX9_boundaryCount := by decide +kernel
  obtain ⟨Q, hQ⟩ : ∃ Q, Q = gq_Qi below D A args s r_ [(h_t_, .inr (9, [.int v_segmentCount, .int v_wordCount, .ref h_order, .ref h_durations, .ref h_pauses, .ref h_sizes, .ref h_words, .ref h_names]))] 0 0 := ⟨_, rfl⟩
  rw [← hQ]
  refine gq_loc [(0, .ref h_t_)] rfl ?_
  unfold F_X9_boundaryCount at hF
  refine gq_aload_n hC 0 dX9_boundaryCount_0 rfl rfl ?_
  refine gq_get hC (kf := 0) 0 hin_X9 rfl rfl (by decide) hw_31 rfl dX9_boundaryCount_1 ?_
  refine gq_if_le hC 16 dX9_boundaryCount_4 (by decide) (fun hc_1 => ?_) (fun hc_1 => ?_)
  · have hF := (if_pos hc_1).symm.trans hF
    refine gq_iconst hC (0 : Int32) dX9_boundaryCount_16 (by decide) ?_
    cases hF
    rw [hQ]
    exact gq_iret hC rfl dX9_boundaryCount_17
  · have hF := (if_neg hc_1).symm.trans hF
    refine gq_aload_n hC 0 dX9_boundaryCount_7 rfl rfl ?_
    refine gq_get hC (kf := 0) 0 hin_X9 rfl rfl (by decide) hw_31 rfl dX9_boundaryCount_8 ?_
    refine gq_iconst hC (1 : Int32) dX9_boundaryCount_11 (by decide) ?_
    refine gq_isub hC dX9_boundaryCount_12 ?_
    refine gq_goto hC 17 dX9_boundaryCount_13 (by decide) ?_
    cases hF
    rw [hQ]
    exact gq_iret hC rfl dX9_boundaryCount_17
theorem hy_X9_durationOf : yX9_durationOf.cls = RX9 ∧ yX9_durationOf.cls ≠ "java/lang/invoke/MethodHandle" ∧ yX9_durationOf.cls ≠ "java/lang/invoke/VarHandle" ∧ (parseMethodDescriptor yX9_durationOf.desc).map (fun d => d.parameters.length) = some 1 := by decide +kernel
set_option maxRecDepth 20000 in
set_option maxHeartbeats 4000000 in
theorem k_X9_durationOf (l : Launch) (D : va_G) (cI cJ cZ cO : ClassId) (z : Nat → Nat)   (h_t_ : Nat) (h_order : Nat) (h_durations : Nat) (h_pauses : Nat) (h_sizes : Nat) (h_words : Nat) (h_names : Nat) (x1 : Int32) (v_segmentCount : Int32) (v_wordCount : Int32) (v_order : Nat → Int32) (v_durations : Nat → Int32) (r_ : Int32) (hF : F_X9_durationOf x1 v_order v_durations = some r_) : Mi l yX9_durationOf wsX9_durationOf (rmD 0) D (gq_ty cI cJ cZ cO) z [.ref h_t_, .int x1] [(h_t_, .inr (9, [.int v_segmentCount, .int v_wordCount, .ref h_order, .ref h_durations, .ref h_pauses, .ref h_sizes, .ref h_words, .ref h_names])), (h_order, .inl (cI, 32, .inl v_order)), (h_durations, .inl (cI, 32, .inl v_durations))] r_ [(h_t_, .inr (9, [.int v_segmentCount, .int v_wordCount, .ref h_order, .ref h_durations, .ref h_pauses, .ref h_sizes, .ref h_words, .ref h_names])), (h_order, .inl (cI, 32, .inl v_order)), (h_durations, .inl (cI, 32, .inl v_durations))] 0 0 := by
  refine Mi.of (cc := cX9_durationOf) (maxL := 2) (by decide) rfl (Nat.le_of_ble_eq_true rfl) ⟨Nat.le_refl 0, Nat.le_refl 0⟩ ?_
  intro p e s m args below meth c A hC ha
  have hin_X9 : ∀ w ∈ wsX90, w ∈ wsX9_durationOf := by decide +kernel
  have hw_9 : Cond.fieldLink RX9 9 (TX9 2).1 (TX9 2).2.1 (TX9 2).2.2.1 ∈ wsX9_durationOf := by decide +kernel
  have hw_15 : Cond.fieldLink RX9 15 (TX9 3).1 (TX9 3).2.1 (TX9 3).2.2.1 ∈ wsX9_durationOf := by decide +kernel
  obtain ⟨Q, hQ⟩ : ∃ Q, Q = gq_Qi below D A args s r_ [(h_t_, .inr (9, [.int v_segmentCount, .int v_wordCount, .ref h_order, .ref h_durations, .ref h_pauses, .ref h_sizes, .ref h_words, .ref h_names])), (h_order, .inl (cI, 32, .inl v_order)), (h_durations, .inl (cI, 32, .inl v_durations))] 0 0 := ⟨_, rfl⟩
  rw [← hQ]
  refine gq_loc [(0, .ref h_t_), (1, .int x1)] rfl ?_
  unfold F_X9_durationOf at hF
  refine gq_aload_n hC 0 dX9_durationOf_0 rfl rfl ?_
  refine gq_get hC (kf := 3) 0 hin_X9 rfl rfl (by decide) hw_15 rfl dX9_durationOf_1 ?_
  refine gq_aload_n hC 0 dX9_durationOf_4 rfl rfl ?_
  refine gq_get hC (kf := 2) 0 hin_X9 rfl rfl (by decide) hw_9 rfl dX9_durationOf_5 ?_
  refine gq_iload_n hC 1 dX9_durationOf_8 rfl rfl ?_
  obtain ⟨hi_1, hF⟩ := gi_e hF
  refine gq_iald hC 1 0 rfl rfl hi_1 dX9_durationOf_9 ?_
  obtain ⟨hi_2, hF⟩ := gi_e hF
  refine gq_iald hC 2 0 rfl rfl hi_2 dX9_durationOf_10 ?_
  cases hF
  rw [hQ]
  exact gq_iret hC rfl dX9_durationOf_11
theorem hy_X9_pauseOf : yX9_pauseOf.cls = RX9 ∧ yX9_pauseOf.cls ≠ "java/lang/invoke/MethodHandle" ∧ yX9_pauseOf.cls ≠ "java/lang/invoke/VarHandle" ∧ (parseMethodDescriptor yX9_pauseOf.desc).map (fun d => d.parameters.length) = some 1 := by decide +kernel
set_option maxRecDepth 20000 in
set_option maxHeartbeats 4000000 in
theorem k_X9_pauseOf (l : Launch) (D : va_G) (cI cJ cZ cO : ClassId) (z : Nat → Nat)   (h_t_ : Nat) (h_order : Nat) (h_pauses : Nat) (h_durations : Nat) (h_sizes : Nat) (h_words : Nat) (h_names : Nat) (x1 : Int32) (v_segmentCount : Int32) (v_wordCount : Int32) (v_order : Nat → Int32) (v_pauses : Nat → Int32) (r_ : Int32) (hF : F_X9_pauseOf x1 v_order v_pauses = some r_) : Mi l yX9_pauseOf wsX9_pauseOf (rmD 0) D (gq_ty cI cJ cZ cO) z [.ref h_t_, .int x1] [(h_t_, .inr (9, [.int v_segmentCount, .int v_wordCount, .ref h_order, .ref h_durations, .ref h_pauses, .ref h_sizes, .ref h_words, .ref h_names])), (h_order, .inl (cI, 32, .inl v_order)), (h_pauses, .inl (cI, 32, .inl v_pauses))] r_ [(h_t_, .inr (9, [.int v_segmentCount, .int v_wordCount, .ref h_order, .ref h_durations, .ref h_pauses, .ref h_sizes, .ref h_words, .ref h_names])), (h_order, .inl (cI, 32, .inl v_order)), (h_pauses, .inl (cI, 32, .inl v_pauses))] 0 0 := by
  refine Mi.of (cc := cX9_pauseOf) (maxL := 2) (by decide) rfl (Nat.le_of_ble_eq_true rfl) ⟨Nat.le_refl 0, Nat.le_refl 0⟩ ?_
  intro p e s m args below meth c A hC ha
  have hin_X9 : ∀ w ∈ wsX90, w ∈ wsX9_pauseOf := by decide +kernel
  have hw_9 : Cond.fieldLink RX9 9 (TX9 2).1 (TX9 2).2.1 (TX9 2).2.2.1 ∈ wsX9_pauseOf := by decide +kernel
  have hw_18 : Cond.fieldLink RX9 18 (TX9 4).1 (TX9 4).2.1 (TX9 4).2.2.1 ∈ wsX9_pauseOf := by decide +kernel
  obtain ⟨Q, hQ⟩ : ∃ Q, Q = gq_Qi below D A args s r_ [(h_t_, .inr (9, [.int v_segmentCount, .int v_wordCount, .ref h_order, .ref h_durations, .ref h_pauses, .ref h_sizes, .ref h_words, .ref h_names])), (h_order, .inl (cI, 32, .inl v_order)), (h_pauses, .inl (cI, 32, .inl v_pauses))] 0 0 := ⟨_, rfl⟩
  rw [← hQ]
  refine gq_loc [(0, .ref h_t_), (1, .int x1)] rfl ?_
  unfold F_X9_pauseOf at hF
  refine gq_aload_n hC 0 dX9_pauseOf_0 rfl rfl ?_
  refine gq_get hC (kf := 4) 0 hin_X9 rfl rfl (by decide) hw_18 rfl dX9_pauseOf_1 ?_
  refine gq_aload_n hC 0 dX9_pauseOf_4 rfl rfl ?_
  refine gq_get hC (kf := 2) 0 hin_X9 rfl rfl (by decide) hw_9 rfl dX9_pauseOf_5 ?_
  refine gq_iload_n hC 1 dX9_pauseOf_8 rfl rfl ?_
  obtain ⟨hi_1, hF⟩ := gi_e hF
  refine gq_iald hC 1 0 rfl rfl hi_1 dX9_pauseOf_9 ?_
  obtain ⟨hi_2, hF⟩ := gi_e hF
  refine gq_iald hC 2 0 rfl rfl hi_2 dX9_pauseOf_10 ?_
  cases hF
  rw [hQ]
  exact gq_iret hC rfl dX9_pauseOf_11
theorem hy_X9_sizeOf : yX9_sizeOf.cls = RX9 ∧ yX9_sizeOf.cls ≠ "java/lang/invoke/MethodHandle" ∧ yX9_sizeOf.cls ≠ "java/lang/invoke/VarHandle" ∧ (parseMethodDescriptor yX9_sizeOf.desc).map (fun d => d.parameters.length) = some 1 := by decide +kernel
set_option maxRecDepth 20000 in
set_option maxHeartbeats 4000000 in
theorem k_X9_sizeOf (l : Launch) (D : va_G) (cI cJ cZ cO : ClassId) (z : Nat → Nat)   (h_t_ : Nat) (h_order : Nat) (h_sizes : Nat) (h_durations : Nat) (h_pauses : Nat) (h_words : Nat) (h_names : Nat) (x1 : Int32) (v_segmentCount : Int32) (v_wordCount : Int32) (v_order : Nat → Int32) (v_sizes : Nat → Int32) (r_ : Int32) (hF : F_X9_sizeOf x1 v_order v_sizes = some r_) : Mi l yX9_sizeOf wsX9_sizeOf (rmD 0) D (gq_ty cI cJ cZ cO) z [.ref h_t_, .int x1] [(h_t_, .inr (9, [.int v_segmentCount, .int v_wordCount, .ref h_order, .ref h_durations, .ref h_pauses, .ref h_sizes, .ref h_words, .ref h_names])), (h_order, .inl (cI, 32, .inl v_order)), (h_sizes, .inl (cI, 32, .inl v_sizes))] r_ [(h_t_, .inr (9, [.int v_segmentCount, .int v_wordCount, .ref h_order, .ref h_durations, .ref h_pauses, .ref h_sizes, .ref h_words, .ref h_names])), (h_order, .inl (cI, 32, .inl v_order)), (h_sizes, .inl (cI, 32, .inl v_sizes))] 0 0 := by
  refine Mi.of (cc := cX9_sizeOf) (maxL := 2) (by decide) rfl (Nat.le_of_ble_eq_true rfl) ⟨Nat.le_refl 0, Nat.le_refl 0⟩ ?_
  intro p e s m args below meth c A hC ha
  have hin_X9 : ∀ w ∈ wsX90, w ∈ wsX9_sizeOf := by decide +kernel
  have hw_9 : Cond.fieldLink RX9 9 (TX9 2).1 (TX9 2).2.1 (TX9 2).2.2.1 ∈ wsX9_sizeOf := by decide +kernel
  have hw_21 : Cond.fieldLink RX9 21 (TX9 5).1 (TX9 5).2.1 (TX9 5).2.2.1 ∈ wsX9_sizeOf := by decide +kernel
  obtain ⟨Q, hQ⟩ : ∃ Q, Q = gq_Qi below D A args s r_ [(h_t_, .inr (9, [.int v_segmentCount, .int v_wordCount, .ref h_order, .ref h_durations, .ref h_pauses, .ref h_sizes, .ref h_words, .ref h_names])), (h_order, .inl (cI, 32, .inl v_order)), (h_sizes, .inl (cI, 32, .inl v_sizes))] 0 0 := ⟨_, rfl⟩
  rw [← hQ]
  refine gq_loc [(0, .ref h_t_), (1, .int x1)] rfl ?_
  unfold F_X9_sizeOf at hF
  refine gq_aload_n hC 0 dX9_sizeOf_0 rfl rfl ?_
  refine gq_get hC (kf := 5) 0 hin_X9 rfl rfl (by decide) hw_21 rfl dX9_sizeOf_1 ?_
  refine gq_aload_n hC 0 dX9_sizeOf_4 rfl rfl ?_
  refine gq_get hC (kf := 2) 0 hin_X9 rfl rfl (by decide) hw_9 rfl dX9_sizeOf_5 ?_
  refine gq_iload_n hC 1 dX9_sizeOf_8 rfl rfl ?_
  obtain ⟨hi_1, hF⟩ := gi_e hF
  refine gq_iald hC 1 0 rfl rfl hi_1 dX9_sizeOf_9 ?_
  obtain ⟨hi_2, hF⟩ := gi_e hF
  refine gq_iald hC 2 0 rfl rfl hi_2 dX9_sizeOf_10 ?_
  cases hF
  rw [hQ]
  exact gq_iret hC rfl dX9_sizeOf_11
theorem hy_X9_wordAt : yX9_wordAt.cls = RX9 ∧ yX9_wordAt.cls ≠ "java/lang/invoke/MethodHandle" ∧ yX9_wordAt.cls ≠ "java/lang/invoke/VarHandle" ∧ (parseMethodDescriptor yX9_wordAt.desc).map (fun d => d.parameters.length) = some 2 := by decide +kernel
set_option maxRecDepth 20000 in
set_option maxHeartbeats 4000000 in
theorem k_X9_wordAt (l : Launch) (D : va_G) (cI cJ cZ cO : ClassId) (z : Nat → Nat)   (h_t_ : Nat) (h_order : Nat) (h_words : Nat) (h_durations : Nat) (h_pauses : Nat) (h_sizes : Nat) (h_names : Nat) (x1 : Int32) (x2 : Int32) (v_segmentCount : Int32) (v_wordCount : Int32) (v_order : Nat → Int32) (v_words : Nat → Int32) (r_ : Int32) (hF : F_X9_wordAt x1 x2 v_order v_words = some r_) : Mi l yX9_wordAt wsX9_wordAt (rmD 0) D (gq_ty cI cJ cZ cO) z [.ref h_t_, .int x1, .int x2] [(h_t_, .inr (9, [.int v_segmentCount, .int v_wordCount, .ref h_order, .ref h_durations, .ref h_pauses, .ref h_sizes, .ref h_words, .ref h_names])), (h_order, .inl (cI, 32, .inl v_order)), (h_words, .inl (cI, 256, .inl v_words))] r_ [(h_t_, .inr (9, [.int v_segmentCount, .int v_wordCount, .ref h_order, .ref h_durations, .ref h_pauses, .ref h_sizes, .ref h_words, .ref h_names])), (h_order, .inl (cI, 32, .inl v_order)), (h_words, .inl (cI, 256, .inl v_words))] 0 0 := by
  refine Mi.of (cc := cX9_wordAt) (maxL := 3) (by decide) rfl (Nat.le_of_ble_eq_true rfl) ⟨Nat.le_refl 0, Nat.le_refl 0⟩ ?_
  intro p e s m args below meth c A hC ha
  have hin_X9 : ∀ w ∈ wsX90, w ∈ wsX9_wordAt := by decide +kernel
  have hw_9 : Cond.fieldLink RX9 9 (TX9 2).1 (TX9 2).2.1 (TX9 2).2.2.1 ∈ wsX9_wordAt := by decide +kernel
  have hw_24 : Cond.fieldLink RX9 24 (TX9 6).1 (TX9 6).2.1 (TX9 6).2.2.1 ∈ wsX9_wordAt := by decide +kernel
  obtain ⟨Q, hQ⟩ : ∃ Q, Q = gq_Qi below D A args s r_ [(h_t_, .inr (9, [.int v_segmentCount, .int v_wordCount, .ref h_order, .ref h_durations, .ref h_pauses, .ref h_sizes, .ref h_words, .ref h_names])), (h_order, .inl (cI, 32, .inl v_order)), (h_words, .inl (cI, 256, .inl v_words))] 0 0 := ⟨_, rfl⟩
  rw [← hQ]
  refine gq_loc [(0, .ref h_t_), (1, .int x1), (2, .int x2)] rfl ?_
  unfold F_X9_wordAt at hF
  refine gq_aload_n hC 0 dX9_wordAt_0 rfl rfl ?_
  refine gq_get hC (kf := 6) 0 hin_X9 rfl rfl (by decide) hw_24 rfl dX9_wordAt_1 ?_
  refine gq_aload_n hC 0 dX9_wordAt_4 rfl rfl ?_
  refine gq_get hC (kf := 2) 0 hin_X9 rfl rfl (by decide) hw_9 rfl dX9_wordAt_5 ?_
  refine gq_iload_n hC 1 dX9_wordAt_8 rfl rfl ?_
  obtain ⟨hi_1, hF⟩ := gi_e hF
  refine gq_iald hC 1 0 rfl rfl hi_1 dX9_wordAt_9 ?_
  refine gq_bipush hC (8 : Int32) dX9_wordAt_10 (by decide) ?_
  refine gq_imul hC dX9_wordAt_12 ?_
  refine gq_iload_n hC 2 dX9_wordAt_13 rfl rfl ?_
  refine gq_iadd hC dX9_wordAt_14 ?_
  obtain ⟨hi_2, hF⟩ := gi_e hF
  refine gq_iald hC 2 0 rfl rfl hi_2 dX9_wordAt_15 ?_
  cases hF
  rw [hQ]
  exact gq_iret hC rfl dX9_wordAt_16
theorem hy_X9_changeDuration : yX9_changeDuration.cls = RX9 ∧ yX9_changeDuration.cls ≠ "java/lang/invoke/MethodHandle" ∧ yX9_changeDuration.cls ≠ "java/lang/invoke/VarHandle" ∧ (parseMethodDescriptor yX9_changeDuration.desc).map (fun d => d.parameters.length) = some 2 := by decide +kernel
set_option maxRecDepth 20000 in
set_option maxHeartbeats 4000000 in
theorem k_X9_changeDuration (l : Launch) (D : va_G) (cI cJ cZ cO : ClassId) (z : Nat → Nat)   (h_t_ : Nat) (h_order : Nat) (h_durations : Nat) (h_pauses : Nat) (h_sizes : Nat) (h_words : Nat) (h_names : Nat) (x1 : Int32) (x2 : Int32) (v_segmentCount : Int32) (v_wordCount : Int32) (v_order : Nat → Int32) (v_durations : Nat → Int32) (w_durations : Nat → Int32) (hF : F_X9_changeDuration x1 x2 v_order v_durations = some w_durations) : Mv l yX9_changeDuration wsX9_changeDuration (rmD 0) D (gq_ty cI cJ cZ cO) z [.ref h_t_, .int x1, .int x2] [(h_t_, .inr (9, [.int v_segmentCount, .int v_wordCount, .ref h_order, .ref h_durations, .ref h_pauses, .ref h_sizes, .ref h_words, .ref h_names])), (h_order, .inl (cI, 32, .inl v_order)), (h_durations, .inl (cI, 32, .inl v_durations))] [(h_t_, .inr (9, [.int v_segmentCount, .int v_wordCount, .ref h_order, .ref h_durations, .ref h_pauses, .ref h_sizes, .ref h_words, .ref h_names])), (h_order, .inl (cI, 32, .inl v_order)), (h_durations, .inl (cI, 32, .inl w_durations))] 0 0 := by
  refine Mv.of (cc := cX9_changeDuration) (maxL := 3) (by decide) rfl (Nat.le_of_ble_eq_true rfl) ⟨Nat.le_refl 0, Nat.le_refl 0⟩ ?_
  intro p e s m args below meth c A hC ha
  have hin_X9 : ∀ w ∈ wsX90, w ∈ wsX9_changeDuration := by decide +kernel
  have hw_9 : Cond.fieldLink RX9 9 (TX9 2).1 (TX9 2).2.1 (TX9 2).2.2.1 ∈ wsX9_changeDuration := by decide +kernel
  have hw_15 : Cond.fieldLink RX9 15 (TX9 3).1 (TX9 3).2.1 (TX9 3).2.2.1 ∈ wsX9_changeDuration := by decide +kernel
  obtain ⟨Q, hQ⟩ : ∃ Q, Q = gq_Qv below D A args s [(h_t_, .inr (9, [.int v_segmentCount, .int v_wordCount, .ref h_order, .ref h_durations, .ref h_pauses, .ref h_sizes, .ref h_words, .ref h_names])), (h_order, .inl (cI, 32, .inl v_order)), (h_durations, .inl (cI, 32, .inl w_durations))] 0 0 := ⟨_, rfl⟩
  rw [← hQ]
  refine gq_loc [(0, .ref h_t_), (1, .int x1), (2, .int x2)] rfl ?_
  unfold F_X9_changeDuration at hF
  refine gq_aload_n hC 0 dX9_changeDuration_0 rfl rfl ?_
  refine gq_get hC (kf := 3) 0 hin_X9 rfl rfl (by decide) hw_15 rfl dX9_changeDuration_1 ?_
  refine gq_aload_n hC 0 dX9_changeDuration_4 rfl rfl ?_
  refine gq_get hC (kf := 2) 0 hin_X9 rfl rfl (by decide) hw_9 rfl dX9_changeDuration_5 ?_
  refine gq_iload_n hC 1 dX9_changeDuration_8 rfl rfl ?_
  obtain ⟨hi_1, hF⟩ := gi_e hF
  refine gq_iald hC 1 0 rfl rfl hi_1 dX9_changeDuration_9 ?_
  refine gq_iload_n hC 2 dX9_changeDuration_10 rfl rfl ?_
  obtain ⟨hi_2, hF⟩ := gi_e hF
  refine gq_iast hC 2 0 [(h_t_, .inr (9, [.int v_segmentCount, .int v_wordCount, .ref h_order, .ref h_durations, .ref h_pauses, .ref h_sizes, .ref h_words, .ref h_names])), (h_order, .inl (cI, 32, .inl v_order)), (h_durations, .inl (cI, 32, .inl (upd v_durations (v_order x1.toNatClampNeg).toNatClampNeg x2)))] rfl rfl hi_2 dX9_changeDuration_11 rfl ?_
  cases hF
  rw [hQ]
  exact gq_vret hC dX9_changeDuration_12
theorem hy_X9_changePause : yX9_changePause.cls = RX9 ∧ yX9_changePause.cls ≠ "java/lang/invoke/MethodHandle" ∧ yX9_changePause.cls ≠ "java/lang/invoke/VarHandle" ∧ (parseMethodDescriptor yX9_changePause.desc).map (fun d => d.parameters.length) = some 2 := by decide +kernel
set_option maxRecDepth 20000 in
set_option maxHeartbeats 4000000 in
theorem k_X9_changePause (l : Launch) (D : va_G) (cI cJ cZ cO : ClassId) (z : Nat → Nat)   (h_t_ : Nat) (h_order : Nat) (h_pauses : Nat) (h_durations : Nat) (h_sizes : Nat) (h_words : Nat) (h_names : Nat) (x1 : Int32) (x2 : Int32) (v_segmentCount : Int32) (v_wordCount : Int32) (v_order : Nat → Int32) (v_pauses : Nat → Int32) (w_pauses : Nat → Int32) (hF : F_X9_changePause x1 x2 v_order v_pauses = some w_pauses) : Mv l yX9_changePause wsX9_changePause (rmD 0) D (gq_ty cI cJ cZ cO) z [.ref h_t_, .int x1, .int x2] [(h_t_, .inr (9, [.int v_segmentCount, .int v_wordCount, .ref h_order, .ref h_durations, .ref h_pauses, .ref h_sizes, .ref h_words, .ref h_names])), (h_order, .inl (cI, 32, .inl v_order)), (h_pauses, .inl (cI, 32, .inl v_pauses))] [(h_t_, .inr (9, [.int v_segmentCount, .int v_wordCount, .ref h_order, .ref h_durations, .ref h_pauses, .ref h_sizes, .ref h_words, .ref h_names])), (h_order, .inl (cI, 32, .inl v_order)), (h_pauses, .inl (cI, 32, .inl w_pauses))] 0 0 := by
  refine Mv.of (cc := cX9_changePause) (maxL := 3) (by decide) rfl (Nat.le_of_ble_eq_true rfl) ⟨Nat.le_refl 0, Nat.le_refl 0⟩ ?_
  intro p e s m args below meth c A hC ha
  have hin_X9 : ∀ w ∈ wsX90, w ∈ wsX9_changePause := by decide +kernel
  have hw_9 : Cond.fieldLink RX9 9 (TX9 2).1 (TX9 2).2.1 (TX9 2).2.2.1 ∈ wsX9_changePause := by decide +kernel
  have hw_18 : Cond.fieldLink RX9 18 (TX9 4).1 (TX9 4).2.1 (TX9 4).2.2.1 ∈ wsX9_changePause := by decide +kernel
  obtain ⟨Q, hQ⟩ : ∃ Q, Q = gq_Qv below D A args s [(h_t_, .inr (9, [.int v_segmentCount, .int v_wordCount, .ref h_order, .ref h_durations, .ref h_pauses, .ref h_sizes, .ref h_words, .ref h_names])), (h_order, .inl (cI, 32, .inl v_order)), (h_pauses, .inl (cI, 32, .inl w_pauses))] 0 0 := ⟨_, rfl⟩
  rw [← hQ]
  refine gq_loc [(0, .ref h_t_), (1, .int x1), (2, .int x2)] rfl ?_
  unfold F_X9_changePause at hF
  refine gq_aload_n hC 0 dX9_changePause_0 rfl rfl ?_
  refine gq_get hC (kf := 4) 0 hin_X9 rfl rfl (by decide) hw_18 rfl dX9_changePause_1 ?_
  refine gq_aload_n hC 0 dX9_changePause_4 rfl rfl ?_
  refine gq_get hC (kf := 2) 0 hin_X9 rfl rfl (by decide) hw_9 rfl dX9_changePause_5 ?_
  refine gq_iload_n hC 1 dX9_changePause_8 rfl rfl ?_
  obtain ⟨hi_1, hF⟩ := gi_e hF
  refine gq_iald hC 1 0 rfl rfl hi_1 dX9_changePause_9 ?_
  refine gq_iload_n hC 2 dX9_changePause_10 rfl rfl ?_
  obtain ⟨hi_2, hF⟩ := gi_e hF
  refine gq_iast hC 2 0 [(h_t_, .inr (9, [.int v_segmentCount, .int v_wordCount, .ref h_order, .ref h_durations, .ref h_pauses, .ref h_sizes, .ref h_words, .ref h_names])), (h_order, .inl (cI, 32, .inl v_order)), (h_pauses, .inl (cI, 32, .inl (upd v_pauses (v_order x1.toNatClampNeg).toNatClampNeg x2)))] rfl rfl hi_2 dX9_changePause_11 rfl ?_
  cases hF
  rw [hQ]
  exact gq_vret hC dX9_changePause_12
theorem hy_X9_putWord : yX9_putWord.cls = RX9 ∧ yX9_putWord.cls ≠ "java/lang/invoke/MethodHandle" ∧ yX9_putWord.cls ≠ "java/lang/invoke/VarHandle" ∧ (parseMethodDescriptor yX9_putWord.desc).map (fun d => d.parameters.length) = some 2 := by decide +kernel
set_option maxRecDepth 20000 in
set_option maxHeartbeats 4000000 in
theorem k_X9_putWord (l : Launch) (D : va_G) (cI cJ cZ cO : ClassId) (z : Nat → Nat)   (h_t_ : Nat) (h_order : Nat) (h_sizes : Nat) (h_words : Nat) (h_durations : Nat) (h_pauses : Nat) (h_names : Nat) (x1 : Int32) (x2 : Int32) (v_segmentCount : Int32) (v_wordCount : Int32) (v_order : Nat → Int32) (v_sizes : Nat → Int32) (v_words : Nat → Int32) (r_ : Int32) (w_sizes : Nat → Int32) (w_words : Nat → Int32) (hF : F_X9_putWord x1 x2 v_order v_sizes v_words = some (r_, w_sizes, w_words)) : Mi l yX9_putWord wsX9_putWord (rmD 0) D (gq_ty cI cJ cZ cO) z [.ref h_t_, .int x1, .int x2] [(h_t_, .inr (9, [.int v_segmentCount, .int v_wordCount, .ref h_order, .ref h_durations, .ref h_pauses, .ref h_sizes, .ref h_words, .ref h_names])), (h_order, .inl (cI, 32, .inl v_order)), (h_sizes, .inl (cI, 32, .inl v_sizes)), (h_words, .inl (cI, 256, .inl v_words))] r_ [(h_t_, .inr (9, [.int v_segmentCount, .int v_wordCount, .ref h_order, .ref h_durations, .ref h_pauses, .ref h_sizes, .ref h_words, .ref h_names])), (h_order, .inl (cI, 32, .inl v_order)), (h_sizes, .inl (cI, 32, .inl w_sizes)), (h_words, .inl (cI, 256, .inl w_words))] 0 0 := by
  refine Mi.of (cc := cX9_putWord) (maxL := 4) (by decide) rfl (Nat.le_of_ble_eq_true rfl) ⟨Nat.le_refl 0, Nat.le_refl 0⟩ ?_
  intro p e s m args below meth c A hC ha
  have hin_X9 : ∀ w ∈ wsX90, w ∈ wsX9_putWord := by decide +kernel
  have hw_9 : Cond.fieldLink RX9 9 (TX9 2).1 (TX9 2).2.1 (TX9 2).2.2.1 ∈ wsX9_putWord := by decide +kernel
  have hw_21 : Cond.fieldLink RX9 21 (TX9 5).1 (TX9 5).2.1 (TX9 5).2.2.1 ∈ wsX9_putWord := by decide +kernel
  have hw_24 : Cond.fieldLink RX9 24 (TX9 6).1 (TX9 6).2.1 (TX9 6).2.2.1 ∈ wsX9_putWord := by decide +kernel
  obtain ⟨Q, hQ⟩ : ∃ Q, Q = gq_Qi below D A args s r_ [(h_t_, .inr (9, [.int v_segmentCount, .int v_wordCount, .ref h_order, .ref h_durations, .ref h_pauses, .ref h_sizes, .ref h_words, .ref h_names])), (h_order, .inl (cI, 32, .inl v_order)), (h_sizes, .inl (cI, 32, .inl w_sizes)), (h_words, .inl (cI, 256, .inl w_words))] 0 0 := ⟨_, rfl⟩
  rw [← hQ]
  refine gq_loc [(0, .ref h_t_), (1, .int x1), (2, .int x2)] rfl ?_
  unfold F_X9_putWord at hF
  refine gq_aload_n hC 0 dX9_putWord_0 rfl rfl ?_
  refine gq_get hC (kf := 2) 0 hin_X9 rfl rfl (by decide) hw_9 rfl dX9_putWord_1 ?_
  refine gq_iload_n hC 1 dX9_putWord_4 rfl rfl ?_
  obtain ⟨hi_1, hF⟩ := gi_e hF
  refine gq_iald hC 1 0 rfl rfl hi_1 dX9_putWord_5 ?_
  refine gq_istore_n hC [(3, .int (v_order x1.toNatClampNeg)), (0, .ref h_t_), (1, .int x1), (2, .int x2)] dX9_putWord_6 rfl (by decide) rfl ?_
  refine gq_aload_n hC 1 dX9_putWord_7 rfl rfl ?_
  refine gq_get hC (kf := 5) 0 hin_X9 rfl rfl (by decide) hw_21 rfl dX9_putWord_8 ?_
  refine gq_iload_n hC 0 dX9_putWord_11 rfl rfl ?_
  obtain ⟨hi_2, hF⟩ := gi_e hF
  refine gq_iald hC 2 0 rfl rfl hi_2 dX9_putWord_12 ?_
  refine gq_bipush hC (8 : Int32) dX9_putWord_13 (by decide) ?_
  refine gq_icmp_lt hC 20 dX9_putWord_15 (by decide) (fun hc_7 => ?_) (fun hc_7 => ?_)
  · have hF := (if_pos hc_7).symm.trans hF
    refine gq_aload_n hC 1 dX9_putWord_20 rfl rfl ?_
    refine gq_get hC (kf := 6) 0 hin_X9 rfl rfl (by decide) hw_24 rfl dX9_putWord_21 ?_
    refine gq_iload_n hC 0 dX9_putWord_24 rfl rfl ?_
    refine gq_bipush hC (8 : Int32) dX9_putWord_25 (by decide) ?_
    refine gq_imul hC dX9_putWord_27 ?_
    refine gq_aload_n hC 1 dX9_putWord_28 rfl rfl ?_
    refine gq_get hC (kf := 5) 0 hin_X9 rfl rfl (by decide) hw_21 rfl dX9_putWord_29 ?_
    refine gq_iload_n hC 0 dX9_putWord_32 rfl rfl ?_
    obtain ⟨hi_3, hF⟩ := gi_e hF
    refine gq_iald hC 2 0 rfl rfl hi_3 dX9_putWord_33 ?_
    refine gq_iadd hC dX9_putWord_34 ?_
    refine gq_iload_n hC 3 dX9_putWord_35 rfl rfl ?_
    obtain ⟨hi_4, hF⟩ := gi_e hF
    refine gq_iast hC 3 0 [(h_t_, .inr (9, [.int v_segmentCount, .int v_wordCount, .ref h_order, .ref h_durations, .ref h_pauses, .ref h_sizes, .ref h_words, .ref h_names])), (h_order, .inl (cI, 32, .inl v_order)), (h_sizes, .inl (cI, 32, .inl v_sizes)), (h_words, .inl (cI, 256, .inl (upd v_words (((v_order x1.toNatClampNeg) * (8 : Int32)) + (v_sizes (v_order x1.toNatClampNeg).toNatClampNeg)).toNatClampNeg x2)))] rfl rfl hi_4 dX9_putWord_36 rfl ?_
    refine gq_aload_n hC 1 dX9_putWord_37 rfl rfl ?_
    refine gq_get hC (kf := 5) 0 hin_X9 rfl rfl (by decide) hw_21 rfl dX9_putWord_38 ?_
    refine gq_iload_n hC 0 dX9_putWord_41 rfl rfl ?_
    refine gq_dup2 hC dX9_putWord_42 rfl rfl ?_
    obtain ⟨hi_5, hF⟩ := gi_e hF
    refine gq_iald hC 2 0 rfl rfl hi_5 dX9_putWord_43 ?_
    refine gq_iconst hC (1 : Int32) dX9_putWord_44 (by decide) ?_
    refine gq_iadd hC dX9_putWord_45 ?_
    obtain ⟨hi_6, hF⟩ := gi_e hF
    refine gq_iast hC 2 0 [(h_t_, .inr (9, [.int v_segmentCount, .int v_wordCount, .ref h_order, .ref h_durations, .ref h_pauses, .ref h_sizes, .ref h_words, .ref h_names])), (h_order, .inl (cI, 32, .inl v_order)), (h_sizes, .inl (cI, 32, .inl (upd v_sizes (v_order x1.toNatClampNeg).toNatClampNeg ((v_sizes (v_order x1.toNatClampNeg).toNatClampNeg) + (1 : Int32))))), (h_words, .inl (cI, 256, .inl (upd v_words (((v_order x1.toNatClampNeg) * (8 : Int32)) + (v_sizes (v_order x1.toNatClampNeg).toNatClampNeg)).toNatClampNeg x2)))] rfl rfl hi_6 dX9_putWord_46 rfl ?_
    refine gq_iconst hC (1 : Int32) dX9_putWord_47 (by decide) ?_
    cases hF
    rw [hQ]
    exact gq_iret hC rfl dX9_putWord_48
  · have hF := (if_neg hc_7).symm.trans hF
    refine gq_iconst hC (0 : Int32) dX9_putWord_18 (by decide) ?_
    cases hF
    rw [hQ]
    exact gq_iret hC rfl dX9_putWord_19
theorem hy_X9_dropSegment : yX9_dropSegment.cls = RX9 ∧ yX9_dropSegment.cls ≠ "java/lang/invoke/MethodHandle" ∧ yX9_dropSegment.cls ≠ "java/lang/invoke/VarHandle" ∧ (parseMethodDescriptor yX9_dropSegment.desc).map (fun d => d.parameters.length) = some 1 := by decide +kernel
set_option maxRecDepth 20000 in
set_option maxHeartbeats 4000000 in
theorem k_X9_dropSegment (l : Launch) (D : va_G) (cI cJ cZ cO : ClassId) (z : Nat → Nat)   (h_t_ : Nat) (h_order : Nat) (h_durations : Nat) (h_pauses : Nat) (h_sizes : Nat) (h_words : Nat) (h_names : Nat) (x1 : Int32) (v_segmentCount : Int32) (v_wordCount : Int32) (v_order : Nat → Int32) (w_segmentCount : Int32) (w_order : Nat → Int32) (hF : F_X9_dropSegment x1 v_segmentCount v_order = some (w_segmentCount, w_order)) : Mv l yX9_dropSegment wsX9_dropSegment (rmD 0) D (gq_ty cI cJ cZ cO) z [.ref h_t_, .int x1] [(h_t_, .inr (9, [.int v_segmentCount, .int v_wordCount, .ref h_order, .ref h_durations, .ref h_pauses, .ref h_sizes, .ref h_words, .ref h_names])), (h_order, .inl (cI, 32, .inl v_order))] [(h_t_, .inr (9, [.int w_segmentCount, .int v_wordCount, .ref h_order, .ref h_durations, .ref h_pauses, .ref h_sizes, .ref h_words, .ref h_names])), (h_order, .inl (cI, 32, .inl w_order))] 0 0 := by
  refine Mv.of (cc := cX9_dropSegment) (maxL := 3) (by decide) rfl (Nat.le_of_ble_eq_true rfl) ⟨Nat.le_refl 0, Nat.le_refl 0⟩ ?_
  intro p e s m args below meth c A hC ha
  have hin_X9 : ∀ w ∈ wsX90, w ∈ wsX9_dropSegment := by decide +kernel
  have hw_9 : Cond.fieldLink RX9 9 (TX9 2).1 (TX9 2).2.1 (TX9 2).2.2.1 ∈ wsX9_dropSegment := by decide +kernel
  have hw_31 : Cond.fieldLink RX9 31 (TX9 0).1 (TX9 0).2.1 (TX9 0).2.2.1 ∈ wsX9_dropSegment := by decide +kernel
  obtain ⟨Q, hQ⟩ : ∃ Q, Q = gq_Qv below D A args s [(h_t_, .inr (9, [.int w_segmentCount, .int v_wordCount, .ref h_order, .ref h_durations, .ref h_pauses, .ref h_sizes, .ref h_words, .ref h_names])), (h_order, .inl (cI, 32, .inl w_order))] 0 0 := ⟨_, rfl⟩
  rw [← hQ]
  refine gq_loc [(0, .ref h_t_), (1, .int x1)] rfl ?_
  unfold F_X9_dropSegment at hF
  refine gq_iload_n hC 1 dX9_dropSegment_0 rfl rfl ?_
  refine gq_istore_n hC [(2, .int x1), (0, .ref h_t_), (1, .int x1)] dX9_dropSegment_1 rfl (by decide) rfl ?_
  have lp2 : ∀ (v_segmentCount_2 : Int32), ∀ (e_7 : (Nat → Int32)), Gx p l e (rmD 0) s m args below meth c D A 3 Q 0 0 32 [(0, .ref h_t_)] [] [(h_t_, .inr (9, [.int v_segmentCount_2, .int v_wordCount, .ref h_order, .ref h_durations, .ref h_pauses, .ref h_sizes, .ref h_words, .ref h_names])), (h_order, .inl (cI, 32, .inl e_7))] → ∀ (N : Nat) (l2_1 : Int32) (v_order_3 : Nat → Int32), wh (fun k q => S_X9_dropSegment_2 v_segmentCount_2 k q.1 q.2) N (l2_1, v_order_3) = some e_7 → Gx p l e (rmD 0) s m args below meth c D A 3 Q 0 0 2 [(0, .ref h_t_), (2, .int l2_1)] [] [(h_t_, .inr (9, [.int v_segmentCount_2, .int v_wordCount, .ref h_order, .ref h_durations, .ref h_pauses, .ref h_sizes, .ref h_words, .ref h_names])), (h_order, .inl (cI, 32, .inl v_order_3))] := by
    intro v_segmentCount_2 e_7 hx0 N
    induction N with
    | zero => intro l2_1 v_order_3 hw; exact absurd hw (wh_0 _ _ _)
    | succ N ih =>
      intro l2_1 v_order_3 hw
      have hF : S_X9_dropSegment_2 v_segmentCount_2 (wh (fun k q => S_X9_dropSegment_2 v_segmentCount_2 k q.1 q.2) N) l2_1 v_order_3 = some e_7 := hw
      unfold S_X9_dropSegment_2 at hF
      refine gq_iload_n hC 1 dX9_dropSegment_2 rfl rfl ?_
      refine gq_aload_n hC 0 dX9_dropSegment_3 rfl rfl ?_
      refine gq_get hC (kf := 0) 0 hin_X9 rfl rfl (by decide) hw_31 rfl dX9_dropSegment_4 ?_
      refine gq_iconst hC (1 : Int32) dX9_dropSegment_7 (by decide) ?_
      refine gq_isub hC dX9_dropSegment_8 ?_
      refine gq_icmp_ge hC 32 dX9_dropSegment_9 (by decide) (fun hc_6 => ?_) (fun hc_6 => ?_)
      · have hF := (if_pos hc_6).symm.trans hF
        refine gq_sub [(0, .ref h_t_)] [0] rfl ?_
        cases hF
        exact hx0
      · have hF := (if_neg hc_6).symm.trans hF
        refine gq_aload_n hC 0 dX9_dropSegment_12 rfl rfl ?_
        refine gq_get hC (kf := 2) 0 hin_X9 rfl rfl (by decide) hw_9 rfl dX9_dropSegment_13 ?_
        refine gq_iload_n hC 1 dX9_dropSegment_16 rfl rfl ?_
        refine gq_aload_n hC 0 dX9_dropSegment_17 rfl rfl ?_
        refine gq_get hC (kf := 2) 0 hin_X9 rfl rfl (by decide) hw_9 rfl dX9_dropSegment_18 ?_
        refine gq_iload_n hC 1 dX9_dropSegment_21 rfl rfl ?_
        refine gq_iconst hC (1 : Int32) dX9_dropSegment_22 (by decide) ?_
        refine gq_iadd hC dX9_dropSegment_23 ?_
        obtain ⟨hi_4, hF⟩ := gi_e hF
        refine gq_iald hC 1 0 rfl rfl hi_4 dX9_dropSegment_24 ?_
        obtain ⟨hi_5, hF⟩ := gi_e hF
        refine gq_iast hC 1 0 [(h_t_, .inr (9, [.int v_segmentCount_2, .int v_wordCount, .ref h_order, .ref h_durations, .ref h_pauses, .ref h_sizes, .ref h_words, .ref h_names])), (h_order, .inl (cI, 32, .inl (upd v_order_3 l2_1.toNatClampNeg (v_order_3 (l2_1 + (1 : Int32)).toNatClampNeg))))] rfl rfl hi_5 dX9_dropSegment_25 rfl ?_
        refine gq_iinc hC 1 (l2_1 + (1 : Int32)) [(2, .int (l2_1 + (1 : Int32))), (0, .ref h_t_)] dX9_dropSegment_26 rfl rfl (by decide) rfl ?_
        refine gq_goto hC 2 dX9_dropSegment_29 (by decide) ?_
        refine gq_sub [(0, .ref h_t_), (2, .int (l2_1 + (1 : Int32)))] [1, 0] rfl ?_
        exact ih (l2_1 + (1 : Int32)) (upd v_order_3 l2_1.toNatClampNeg (v_order_3 (l2_1 + (1 : Int32)).toNatClampNeg)) hF
  refine gq_sub [(0, .ref h_t_), (2, .int x1)] [1, 0] rfl ?_
  obtain ⟨e_8, hw_, hF⟩ := ob1_e hF
  refine lp2 v_segmentCount e_8 ?_ wF x1 v_order hw_
  refine gq_aload_n hC 0 dX9_dropSegment_32 rfl rfl ?_
  refine gq_dup hC dX9_dropSegment_33 rfl ?_
  refine gq_get hC (kf := 0) 0 hin_X9 rfl rfl (by decide) hw_31 rfl dX9_dropSegment_34 ?_
  refine gq_iconst hC (1 : Int32) dX9_dropSegment_37 (by decide) ?_
  refine gq_isub hC dX9_dropSegment_38 ?_
  refine gq_put1 hC (kf := 0) 0 [(h_t_, .inr (9, [.int (v_segmentCount - (1 : Int32)), .int v_wordCount, .ref h_order, .ref h_durations, .ref h_pauses, .ref h_sizes, .ref h_words, .ref h_names])), (h_order, .inl (cI, 32, .inl e_8))] tyX9 tyX9_ok nmX9 hin_X9 rfl rfl (by decide) hw_31 rfl rfl rfl (Nat.le_of_ble_eq_true rfl) dX9_dropSegment_39 rfl ?_
  cases hF
  rw [hQ]
  exact gq_vret hC dX9_dropSegment_42
theorem hy_X9_shiftSegment : yX9_shiftSegment.cls = RX9 ∧ yX9_shiftSegment.cls ≠ "java/lang/invoke/MethodHandle" ∧ yX9_shiftSegment.cls ≠ "java/lang/invoke/VarHandle" ∧ (parseMethodDescriptor yX9_shiftSegment.desc).map (fun d => d.parameters.length) = some 2 := by decide +kernel
set_option maxRecDepth 20000 in
set_option maxHeartbeats 4000000 in
theorem k_X9_shiftSegment (l : Launch) (D : va_G) (cI cJ cZ cO : ClassId) (z : Nat → Nat)   (h_t_ : Nat) (h_order : Nat) (h_durations : Nat) (h_pauses : Nat) (h_sizes : Nat) (h_words : Nat) (h_names : Nat) (x1 : Int32) (x2 : Int32) (v_segmentCount : Int32) (v_wordCount : Int32) (v_order : Nat → Int32) (w_order : Nat → Int32) (hF : F_X9_shiftSegment x1 x2 v_order = some w_order) : Mv l yX9_shiftSegment wsX9_shiftSegment (rmD 0) D (gq_ty cI cJ cZ cO) z [.ref h_t_, .int x1, .int x2] [(h_t_, .inr (9, [.int v_segmentCount, .int v_wordCount, .ref h_order, .ref h_durations, .ref h_pauses, .ref h_sizes, .ref h_words, .ref h_names])), (h_order, .inl (cI, 32, .inl v_order))] [(h_t_, .inr (9, [.int v_segmentCount, .int v_wordCount, .ref h_order, .ref h_durations, .ref h_pauses, .ref h_sizes, .ref h_words, .ref h_names])), (h_order, .inl (cI, 32, .inl w_order))] 0 0 := by
  refine Mv.of (cc := cX9_shiftSegment) (maxL := 5) (by decide) rfl (Nat.le_of_ble_eq_true rfl) ⟨Nat.le_refl 0, Nat.le_refl 0⟩ ?_
  intro p e s m args below meth c A hC ha
  have hin_X9 : ∀ w ∈ wsX90, w ∈ wsX9_shiftSegment := by decide +kernel
  have hw_9 : Cond.fieldLink RX9 9 (TX9 2).1 (TX9 2).2.1 (TX9 2).2.2.1 ∈ wsX9_shiftSegment := by decide +kernel
  obtain ⟨Q, hQ⟩ : ∃ Q, Q = gq_Qv below D A args s [(h_t_, .inr (9, [.int v_segmentCount, .int v_wordCount, .ref h_order, .ref h_durations, .ref h_pauses, .ref h_sizes, .ref h_words, .ref h_names])), (h_order, .inl (cI, 32, .inl w_order))] 0 0 := ⟨_, rfl⟩
  rw [← hQ]
  refine gq_loc [(0, .ref h_t_), (1, .int x1), (2, .int x2)] rfl ?_
  unfold F_X9_shiftSegment at hF
  refine gq_aload_n hC 0 dX9_shiftSegment_0 rfl rfl ?_
  refine gq_get hC (kf := 2) 0 hin_X9 rfl rfl (by decide) hw_9 rfl dX9_shiftSegment_1 ?_
  refine gq_iload_n hC 1 dX9_shiftSegment_4 rfl rfl ?_
  obtain ⟨hi_1, hF⟩ := gi_e hF
  refine gq_iald hC 1 0 rfl rfl hi_1 dX9_shiftSegment_5 ?_
  refine gq_istore_n hC [(3, .int (v_order x1.toNatClampNeg)), (0, .ref h_t_), (1, .int x1), (2, .int x2)] dX9_shiftSegment_6 rfl (by decide) rfl ?_
  refine gq_iload_n hC 2 dX9_shiftSegment_7 rfl rfl ?_
  refine gq_istore hC [(4, .int x1), (3, .int (v_order x1.toNatClampNeg)), (0, .ref h_t_), (1, .int x1), (2, .int x2)] dX9_shiftSegment_8 (by decide) rfl ?_
  have lp10 : ∀ (l3_2 : Int32), ∀ (e_8 : (Nat → Int32)), Gx p l e (rmD 0) s m args below meth c D A 5 Q 0 0 38 [(0, .ref h_t_), (1, .int x1), (2, .int x2), (3, .int l3_2)] [] [(h_t_, .inr (9, [.int v_segmentCount, .int v_wordCount, .ref h_order, .ref h_durations, .ref h_pauses, .ref h_sizes, .ref h_words, .ref h_names])), (h_order, .inl (cI, 32, .inl e_8))] → ∀ (N : Nat) (l4_3 : Int32) (v_order_4 : Nat → Int32), wh (fun k q => S_X9_shiftSegment_10 x1 x2 l3_2 k q.1 q.2) N (l4_3, v_order_4) = some e_8 → Gx p l e (rmD 0) s m args below meth c D A 5 Q 0 0 10 [(0, .ref h_t_), (1, .int x1), (2, .int x2), (3, .int l3_2), (4, .int l4_3)] [] [(h_t_, .inr (9, [.int v_segmentCount, .int v_wordCount, .ref h_order, .ref h_durations, .ref h_pauses, .ref h_sizes, .ref h_words, .ref h_names])), (h_order, .inl (cI, 32, .inl v_order_4))] := by
    intro l3_2 e_8 hx0 N
    induction N with
    | zero => intro l4_3 v_order_4 hw; exact absurd hw (wh_0 _ _ _)
    | succ N ih =>
      intro l4_3 v_order_4 hw
      have hF : S_X9_shiftSegment_10 x1 x2 l3_2 (wh (fun k q => S_X9_shiftSegment_10 x1 x2 l3_2 k q.1 q.2) N) l4_3 v_order_4 = some e_8 := hw
      unfold S_X9_shiftSegment_10 at hF
      refine gq_iload hC 4 dX9_shiftSegment_10 rfl ?_
      refine gq_iload_n hC 2 dX9_shiftSegment_12 rfl rfl ?_
      refine gq_icmp_ge hC 38 dX9_shiftSegment_13 (by decide) (fun hc_7 => ?_) (fun hc_7 => ?_)
      · have hF := (if_pos hc_7).symm.trans hF
        refine gq_sub [(0, .ref h_t_), (1, .int x1), (2, .int x2), (3, .int l3_2)] [0, 1, 2, 3] rfl ?_
        cases hF
        exact hx0
      · have hF := (if_neg hc_7).symm.trans hF
        refine gq_aload_n hC 0 dX9_shiftSegment_16 rfl rfl ?_
        refine gq_get hC (kf := 2) 0 hin_X9 rfl rfl (by decide) hw_9 rfl dX9_shiftSegment_17 ?_
        refine gq_iload hC 4 dX9_shiftSegment_20 rfl ?_
        refine gq_aload_n hC 0 dX9_shiftSegment_22 rfl rfl ?_
        refine gq_get hC (kf := 2) 0 hin_X9 rfl rfl (by decide) hw_9 rfl dX9_shiftSegment_23 ?_
        refine gq_iload hC 4 dX9_shiftSegment_26 rfl ?_
        refine gq_iconst hC (1 : Int32) dX9_shiftSegment_28 (by decide) ?_
        refine gq_iadd hC dX9_shiftSegment_29 ?_
        obtain ⟨hi_5, hF⟩ := gi_e hF
        refine gq_iald hC 1 0 rfl rfl hi_5 dX9_shiftSegment_30 ?_
        obtain ⟨hi_6, hF⟩ := gi_e hF
        refine gq_iast hC 1 0 [(h_t_, .inr (9, [.int v_segmentCount, .int v_wordCount, .ref h_order, .ref h_durations, .ref h_pauses, .ref h_sizes, .ref h_words, .ref h_names])), (h_order, .inl (cI, 32, .inl (upd v_order_4 l4_3.toNatClampNeg (v_order_4 (l4_3 + (1 : Int32)).toNatClampNeg))))] rfl rfl hi_6 dX9_shiftSegment_31 rfl ?_
        refine gq_iinc hC 4 (l4_3 + (1 : Int32)) [(4, .int (l4_3 + (1 : Int32))), (0, .ref h_t_), (1, .int x1), (2, .int x2), (3, .int l3_2)] dX9_shiftSegment_32 rfl rfl (by decide) rfl ?_
        refine gq_goto hC 10 dX9_shiftSegment_35 (by decide) ?_
        refine gq_sub [(0, .ref h_t_), (1, .int x1), (2, .int x2), (3, .int l3_2), (4, .int (l4_3 + (1 : Int32)))] [1, 2, 3, 4, 0] rfl ?_
        exact ih (l4_3 + (1 : Int32)) (upd v_order_4 l4_3.toNatClampNeg (v_order_4 (l4_3 + (1 : Int32)).toNatClampNeg)) hF
  refine gq_sub [(0, .ref h_t_), (1, .int x1), (2, .int x2), (3, .int (v_order x1.toNatClampNeg)), (4, .int x1)] [2, 3, 4, 1, 0] rfl ?_
  obtain ⟨e_9, hw_, hF⟩ := ob1_e hF
  refine lp10 (v_order x1.toNatClampNeg) e_9 ?_ wF x1 v_order hw_
  refine gq_iload_n hC 1 dX9_shiftSegment_38 rfl rfl ?_
  refine gq_istore hC [(4, .int x1), (0, .ref h_t_), (1, .int x1), (2, .int x2), (3, .int (v_order x1.toNatClampNeg))] dX9_shiftSegment_39 (by decide) rfl ?_
  have lp41 : ∀ (l3_10 : Int32), ∀ (e_16 : (Nat → Int32)), Gx p l e (rmD 0) s m args below meth c D A 5 Q 0 0 69 [(0, .ref h_t_), (2, .int x2), (3, .int l3_10)] [] [(h_t_, .inr (9, [.int v_segmentCount, .int v_wordCount, .ref h_order, .ref h_durations, .ref h_pauses, .ref h_sizes, .ref h_words, .ref h_names])), (h_order, .inl (cI, 32, .inl e_16))] → ∀ (N : Nat) (l4_11 : Int32) (v_order_12 : Nat → Int32), wh (fun k q => S_X9_shiftSegment_41 x2 l3_10 k q.1 q.2) N (l4_11, v_order_12) = some e_16 → Gx p l e (rmD 0) s m args below meth c D A 5 Q 0 0 41 [(0, .ref h_t_), (2, .int x2), (3, .int l3_10), (4, .int l4_11)] [] [(h_t_, .inr (9, [.int v_segmentCount, .int v_wordCount, .ref h_order, .ref h_durations, .ref h_pauses, .ref h_sizes, .ref h_words, .ref h_names])), (h_order, .inl (cI, 32, .inl v_order_12))] := by
    intro l3_10 e_16 hx0 N
    induction N with
    | zero => intro l4_11 v_order_12 hw; exact absurd hw (wh_0 _ _ _)
    | succ N ih =>
      intro l4_11 v_order_12 hw
      have hF : S_X9_shiftSegment_41 x2 l3_10 (wh (fun k q => S_X9_shiftSegment_41 x2 l3_10 k q.1 q.2) N) l4_11 v_order_12 = some e_16 := hw
      unfold S_X9_shiftSegment_41 at hF
      refine gq_iload hC 3 dX9_shiftSegment_41 rfl ?_
      refine gq_iload_n hC 1 dX9_shiftSegment_43 rfl rfl ?_
      refine gq_icmp_le hC 69 dX9_shiftSegment_44 (by decide) (fun hc_15 => ?_) (fun hc_15 => ?_)
      · have hF := (if_pos hc_15).symm.trans hF
        refine gq_sub [(0, .ref h_t_), (2, .int x2), (3, .int l3_10)] [0, 1, 2] rfl ?_
        cases hF
        exact hx0
      · have hF := (if_neg hc_15).symm.trans hF
        refine gq_aload_n hC 0 dX9_shiftSegment_47 rfl rfl ?_
        refine gq_get hC (kf := 2) 0 hin_X9 rfl rfl (by decide) hw_9 rfl dX9_shiftSegment_48 ?_
        refine gq_iload hC 3 dX9_shiftSegment_51 rfl ?_
        refine gq_aload_n hC 0 dX9_shiftSegment_53 rfl rfl ?_
        refine gq_get hC (kf := 2) 0 hin_X9 rfl rfl (by decide) hw_9 rfl dX9_shiftSegment_54 ?_
        refine gq_iload hC 3 dX9_shiftSegment_57 rfl ?_
        refine gq_iconst hC (1 : Int32) dX9_shiftSegment_59 (by decide) ?_
        refine gq_isub hC dX9_shiftSegment_60 ?_
        obtain ⟨hi_13, hF⟩ := gi_e hF
        refine gq_iald hC 1 0 rfl rfl hi_13 dX9_shiftSegment_61 ?_
        obtain ⟨hi_14, hF⟩ := gi_e hF
        refine gq_iast hC 1 0 [(h_t_, .inr (9, [.int v_segmentCount, .int v_wordCount, .ref h_order, .ref h_durations, .ref h_pauses, .ref h_sizes, .ref h_words, .ref h_names])), (h_order, .inl (cI, 32, .inl (upd v_order_12 l4_11.toNatClampNeg (v_order_12 (l4_11 - (1 : Int32)).toNatClampNeg))))] rfl rfl hi_14 dX9_shiftSegment_62 rfl ?_
        refine gq_iinc hC 3 (l4_11 + (-1 : Int32)) [(4, .int (l4_11 + (-1 : Int32))), (0, .ref h_t_), (2, .int x2), (3, .int l3_10)] dX9_shiftSegment_63 rfl rfl (by decide) rfl ?_
        refine gq_goto hC 41 dX9_shiftSegment_66 (by decide) ?_
        refine gq_sub [(0, .ref h_t_), (2, .int x2), (3, .int l3_10), (4, .int (l4_11 + (-1 : Int32)))] [1, 2, 3, 0] rfl ?_
        exact ih (l4_11 + (-1 : Int32)) (upd v_order_12 l4_11.toNatClampNeg (v_order_12 (l4_11 - (1 : Int32)).toNatClampNeg)) hF
  refine gq_sub [(0, .ref h_t_), (2, .int x2), (3, .int (v_order x1.toNatClampNeg)), (4, .int x1)] [1, 3, 4, 0] rfl ?_
  obtain ⟨e_17, hw_, hF⟩ := ob1_e hF
  refine lp41 (v_order x1.toNatClampNeg) e_17 ?_ wF x1 e_9 hw_
  refine gq_aload_n hC 0 dX9_shiftSegment_69 rfl rfl ?_
  refine gq_get hC (kf := 2) 0 hin_X9 rfl rfl (by decide) hw_9 rfl dX9_shiftSegment_70 ?_
  refine gq_iload_n hC 1 dX9_shiftSegment_73 rfl rfl ?_
  refine gq_iload_n hC 2 dX9_shiftSegment_74 rfl rfl ?_
  obtain ⟨hi_18, hF⟩ := gi_e hF
  refine gq_iast hC 1 0 [(h_t_, .inr (9, [.int v_segmentCount, .int v_wordCount, .ref h_order, .ref h_durations, .ref h_pauses, .ref h_sizes, .ref h_words, .ref h_names])), (h_order, .inl (cI, 32, .inl (upd e_17 x2.toNatClampNeg (v_order x1.toNatClampNeg))))] rfl rfl hi_18 dX9_shiftSegment_75 rfl ?_
  cases hF
  rw [hQ]
  exact gq_vret hC dX9_shiftSegment_76
theorem hy_X9_startOf : yX9_startOf.cls = RX9 ∧ yX9_startOf.cls ≠ "java/lang/invoke/MethodHandle" ∧ yX9_startOf.cls ≠ "java/lang/invoke/VarHandle" ∧ (parseMethodDescriptor yX9_startOf.desc).map (fun d => d.parameters.length) = some 1 := by decide +kernel
set_option maxRecDepth 20000 in
set_option maxHeartbeats 4000000 in
theorem k_X9_startOf (l : Launch) (D : va_G) (cI cJ cZ cO : ClassId) (z : Nat → Nat)   (h_t_ : Nat) (h_order : Nat) (h_durations : Nat) (h_pauses : Nat) (h_sizes : Nat) (h_words : Nat) (h_names : Nat) (x1 : Int32) (v_segmentCount : Int32) (v_wordCount : Int32) (v_order : Nat → Int32) (v_durations : Nat → Int32) (r_ : Int32) (hF : F_X9_startOf x1 v_order v_durations = some r_) : Mi l yX9_startOf wsX9_startOf (rmD 1) D (gq_ty cI cJ cZ cO) z [.ref h_t_, .int x1] [(h_t_, .inr (9, [.int v_segmentCount, .int v_wordCount, .ref h_order, .ref h_durations, .ref h_pauses, .ref h_sizes, .ref h_words, .ref h_names])), (h_order, .inl (cI, 32, .inl v_order)), (h_durations, .inl (cI, 32, .inl v_durations))] r_ [(h_t_, .inr (9, [.int v_segmentCount, .int v_wordCount, .ref h_order, .ref h_durations, .ref h_pauses, .ref h_sizes, .ref h_words, .ref h_names])), (h_order, .inl (cI, 32, .inl v_order)), (h_durations, .inl (cI, 32, .inl v_durations))] 0 0 := by
  refine Mi.of (cc := cX9_startOf) (maxL := 4) (by decide) rfl (Nat.le_of_ble_eq_true rfl) ⟨Nat.le_refl 0, Nat.le_refl 0⟩ ?_
  intro p e s m args below meth c A hC ha
  obtain ⟨Q, hQ⟩ : ∃ Q, Q = gq_Qi below D A args s r_ [(h_t_, .inr (9, [.int v_segmentCount, .int v_wordCount, .ref h_order, .ref h_durations, .ref h_pauses, .ref h_sizes, .ref h_words, .ref h_names])), (h_order, .inl (cI, 32, .inl v_order)), (h_durations, .inl (cI, 32, .inl v_durations))] 0 0 := ⟨_, rfl⟩
  rw [← hQ]
  refine gq_loc [(0, .ref h_t_), (1, .int x1)] rfl ?_
  unfold F_X9_startOf at hF
  refine gq_iconst hC (0 : Int32) dX9_startOf_0 (by decide) ?_
  refine gq_istore_n hC [(2, .int (0 : Int32)), (0, .ref h_t_), (1, .int x1)] dX9_startOf_1 rfl (by decide) rfl ?_
  refine gq_iconst hC (0 : Int32) dX9_startOf_2 (by decide) ?_
  refine gq_istore_n hC [(3, .int (0 : Int32)), (2, .int (0 : Int32)), (0, .ref h_t_), (1, .int x1)] dX9_startOf_3 rfl (by decide) rfl ?_
  have lp4 : ∀ (e_5 : Int32), Gx p l e (rmD 1) s m args below meth c D A 4 Q 0 0 23 [(2, .int e_5)] [] [(h_t_, .inr (9, [.int v_segmentCount, .int v_wordCount, .ref h_order, .ref h_durations, .ref h_pauses, .ref h_sizes, .ref h_words, .ref h_names])), (h_order, .inl (cI, 32, .inl v_order)), (h_durations, .inl (cI, 32, .inl v_durations))] → ∀ (N : Nat) (l2_1 : Int32) (l3_2 : Int32), wh (fun k q => S_X9_startOf_4 x1 v_order v_durations k q.1 q.2) N (l2_1, l3_2) = some e_5 → Gx p l e (rmD 1) s m args below meth c D A 4 Q 0 0 4 [(0, .ref h_t_), (1, .int x1), (2, .int l2_1), (3, .int l3_2)] [] [(h_t_, .inr (9, [.int v_segmentCount, .int v_wordCount, .ref h_order, .ref h_durations, .ref h_pauses, .ref h_sizes, .ref h_words, .ref h_names])), (h_order, .inl (cI, 32, .inl v_order)), (h_durations, .inl (cI, 32, .inl v_durations))] := by
    intro e_5 hx0 N
    induction N with
    | zero => intro l2_1 l3_2 hw; exact absurd hw (wh_0 _ _ _)
    | succ N ih =>
      intro l2_1 l3_2 hw
      have hF : S_X9_startOf_4 x1 v_order v_durations (wh (fun k q => S_X9_startOf_4 x1 v_order v_durations k q.1 q.2) N) l2_1 l3_2 = some e_5 := hw
      unfold S_X9_startOf_4 at hF
      refine gq_iload_n hC 3 dX9_startOf_4 rfl rfl ?_
      refine gq_iload_n hC 1 dX9_startOf_5 rfl rfl ?_
      refine gq_icmp_ge hC 23 dX9_startOf_6 (by decide) (fun hc_4 => ?_) (fun hc_4 => ?_)
      · have hF := (if_pos hc_4).symm.trans hF
        refine gq_sub [(2, .int l2_1)] [2] rfl ?_
        cases hF
        exact hx0
      · have hF := (if_neg hc_4).symm.trans hF
        refine gq_iload_n hC 2 dX9_startOf_9 rfl rfl ?_
        refine gq_aload_n hC 0 dX9_startOf_10 rfl rfl ?_
        refine gq_iload_n hC 3 dX9_startOf_11 rfl rfl ?_
        obtain ⟨r_3, hc_, hF⟩ := ob1_e hF
        refine gq_callVi hC [0, 1, 2] [(h_t_, .inr (9, [.int v_segmentCount, .int v_wordCount, .ref h_order, .ref h_durations, .ref h_pauses, .ref h_sizes, .ref h_words, .ref h_names])), (h_order, .inl (cI, 32, .inl v_order)), (h_durations, .inl (cI, 32, .inl v_durations))] [.int l3_2] [.int l2_1] (k_X9_durationOf l D cI cJ cZ cO z h_t_ h_order h_durations h_pauses h_sizes h_words h_names l3_2 v_segmentCount v_wordCount v_order v_durations r_3 hc_) gX9_startOf_X9_durationOf rfl ⟨rfl, rfl⟩ hy_X9_durationOf ⟨Nat.le_of_ble_eq_true rfl, Nat.le_of_ble_eq_true rfl⟩ rfl rfl rfl (q0 := 0) rfl rfl rfl (Nat.le_of_ble_eq_true rfl) rfl dX9_startOf_12 rfl rfl ?_
        refine gq_iadd hC dX9_startOf_15 ?_
        refine gq_istore_n hC [(2, .int (l2_1 + r_3)), (0, .ref h_t_), (1, .int x1), (3, .int l3_2)] dX9_startOf_16 rfl (by decide) rfl ?_
        refine gq_iinc hC 3 (l3_2 + (1 : Int32)) [(3, .int (l3_2 + (1 : Int32))), (2, .int (l2_1 + r_3)), (0, .ref h_t_), (1, .int x1)] dX9_startOf_17 rfl rfl (by decide) rfl ?_
        refine gq_goto hC 4 dX9_startOf_20 (by decide) ?_
        refine gq_sub [(0, .ref h_t_), (1, .int x1), (2, .int (l2_1 + r_3)), (3, .int (l3_2 + (1 : Int32)))] [2, 3, 1, 0] rfl ?_
        exact ih (l2_1 + r_3) (l3_2 + (1 : Int32)) hF
  refine gq_sub [(0, .ref h_t_), (1, .int x1), (2, .int (0 : Int32)), (3, .int (0 : Int32))] [2, 3, 1, 0] rfl ?_
  obtain ⟨e_6, hw_, hF⟩ := ob1_e hF
  refine lp4  e_6 ?_ wF (0 : Int32) (0 : Int32) hw_
  refine gq_iload_n hC 0 dX9_startOf_23 rfl rfl ?_
  cases hF
  rw [hQ]
  exact gq_iret hC rfl dX9_startOf_24
theorem hy_X9_segmentSpokenAt : yX9_segmentSpokenAt.cls = RX9 ∧ yX9_segmentSpokenAt.cls ≠ "java/lang/invoke/MethodHandle" ∧ yX9_segmentSpokenAt.cls ≠ "java/lang/invoke/VarHandle" ∧ (parseMethodDescriptor yX9_segmentSpokenAt.desc).map (fun d => d.parameters.length) = some 1 := by decide +kernel
set_option maxRecDepth 20000 in
set_option maxHeartbeats 4000000 in
theorem k_X9_segmentSpokenAt (l : Launch) (D : va_G) (cI cJ cZ cO : ClassId) (z : Nat → Nat)   (h_t_ : Nat) (h_order : Nat) (h_durations : Nat) (h_pauses : Nat) (h_sizes : Nat) (h_words : Nat) (h_names : Nat) (x1 : Int32) (v_segmentCount : Int32) (v_wordCount : Int32) (v_order : Nat → Int32) (v_durations : Nat → Int32) (r_ : Int32) (hF : F_X9_segmentSpokenAt x1 v_segmentCount v_order v_durations = some r_) : Mi l yX9_segmentSpokenAt wsX9_segmentSpokenAt (rmD 1) D (gq_ty cI cJ cZ cO) z [.ref h_t_, .int x1] [(h_t_, .inr (9, [.int v_segmentCount, .int v_wordCount, .ref h_order, .ref h_durations, .ref h_pauses, .ref h_sizes, .ref h_words, .ref h_names])), (h_order, .inl (cI, 32, .inl v_order)), (h_durations, .inl (cI, 32, .inl v_durations))] r_ [(h_t_, .inr (9, [.int v_segmentCount, .int v_wordCount, .ref h_order, .ref h_durations, .ref h_pauses, .ref h_sizes, .ref h_words, .ref h_names])), (h_order, .inl (cI, 32, .inl v_order)), (h_durations, .inl (cI, 32, .inl v_durations))] 0 0 := by
  refine Mi.of (cc := cX9_segmentSpokenAt) (maxL := 4) (by decide) rfl (Nat.le_of_ble_eq_true rfl) ⟨Nat.le_refl 0, Nat.le_refl 0⟩ ?_
  intro p e s m args below meth c A hC ha
  have hin_X9 : ∀ w ∈ wsX90, w ∈ wsX9_segmentSpokenAt := by decide +kernel
  have hw_31 : Cond.fieldLink RX9 31 (TX9 0).1 (TX9 0).2.1 (TX9 0).2.2.1 ∈ wsX9_segmentSpokenAt := by decide +kernel
  obtain ⟨Q, hQ⟩ : ∃ Q, Q = gq_Qi below D A args s r_ [(h_t_, .inr (9, [.int v_segmentCount, .int v_wordCount, .ref h_order, .ref h_durations, .ref h_pauses, .ref h_sizes, .ref h_words, .ref h_names])), (h_order, .inl (cI, 32, .inl v_order)), (h_durations, .inl (cI, 32, .inl v_durations))] 0 0 := ⟨_, rfl⟩
  rw [← hQ]
  refine gq_loc [(0, .ref h_t_), (1, .int x1)] rfl ?_
  unfold F_X9_segmentSpokenAt at hF
  refine gq_iload_n hC 1 dX9_segmentSpokenAt_0 rfl rfl ?_
  refine gq_if_ge hC 6 dX9_segmentSpokenAt_1 (by decide) (fun hc_10 => ?_) (fun hc_10 => ?_)
  · have hF := (if_pos hc_10).symm.trans hF
    refine gq_iconst hC (0 : Int32) dX9_segmentSpokenAt_6 (by decide) ?_
    refine gq_istore_n hC [(2, .int (0 : Int32)), (0, .ref h_t_), (1, .int x1)] dX9_segmentSpokenAt_7 rfl (by decide) rfl ?_
    refine gq_iconst hC (0 : Int32) dX9_segmentSpokenAt_8 (by decide) ?_
    refine gq_istore_n hC [(3, .int (0 : Int32)), (2, .int (0 : Int32)), (0, .ref h_t_), (1, .int x1)] dX9_segmentSpokenAt_9 rfl (by decide) rfl ?_
    have lp10 : ∀ (out_ : (Int32) ⊕ (Unit)), (∀ (e_6 : Int32), out_ = .inl e_6 → Gx p l e (rmD 1) s m args below meth c D A 4 Q 0 0 31 [(3, .int e_6)] [] [(h_t_, .inr (9, [.int v_segmentCount, .int v_wordCount, .ref h_order, .ref h_durations, .ref h_pauses, .ref h_sizes, .ref h_words, .ref h_names])), (h_order, .inl (cI, 32, .inl v_order)), (h_durations, .inl (cI, 32, .inl v_durations))]) → (out_ = .inr () → Gx p l e (rmD 1) s m args below meth c D A 4 Q 0 0 39 [] [] [(h_t_, .inr (9, [.int v_segmentCount, .int v_wordCount, .ref h_order, .ref h_durations, .ref h_pauses, .ref h_sizes, .ref h_words, .ref h_names])), (h_order, .inl (cI, 32, .inl v_order)), (h_durations, .inl (cI, 32, .inl v_durations))]) → ∀ (N : Nat) (l2_1 : Int32) (l3_2 : Int32), wh (fun k q => S_X9_segmentSpokenAt_10 x1 v_segmentCount v_order v_durations k q.1 q.2) N (l2_1, l3_2) = some out_ → Gx p l e (rmD 1) s m args below meth c D A 4 Q 0 0 10 [(0, .ref h_t_), (1, .int x1), (2, .int l2_1), (3, .int l3_2)] [] [(h_t_, .inr (9, [.int v_segmentCount, .int v_wordCount, .ref h_order, .ref h_durations, .ref h_pauses, .ref h_sizes, .ref h_words, .ref h_names])), (h_order, .inl (cI, 32, .inl v_order)), (h_durations, .inl (cI, 32, .inl v_durations))] := by
      intro out_ hx0 hx1 N
      induction N with
      | zero => intro l2_1 l3_2 hw; exact absurd hw (wh_0 _ _ _)
      | succ N ih =>
        intro l2_1 l3_2 hw
        have hF : S_X9_segmentSpokenAt_10 x1 v_segmentCount v_order v_durations (wh (fun k q => S_X9_segmentSpokenAt_10 x1 v_segmentCount v_order v_durations k q.1 q.2) N) l2_1 l3_2 = some out_ := hw
        unfold S_X9_segmentSpokenAt_10 at hF
        refine gq_iload_n hC 3 dX9_segmentSpokenAt_10 rfl rfl ?_
        refine gq_aload_n hC 0 dX9_segmentSpokenAt_11 rfl rfl ?_
        refine gq_get hC (kf := 0) 0 hin_X9 rfl rfl (by decide) hw_31 rfl dX9_segmentSpokenAt_12 ?_
        refine gq_icmp_ge hC 39 dX9_segmentSpokenAt_15 (by decide) (fun hc_5 => ?_) (fun hc_5 => ?_)
        · have hF := (if_pos hc_5).symm.trans hF
          refine gq_sub [] [] rfl ?_
          exact hx1  (Option.some.inj hF).symm
        · have hF := (if_neg hc_5).symm.trans hF
          refine gq_iload_n hC 2 dX9_segmentSpokenAt_18 rfl rfl ?_
          refine gq_aload_n hC 0 dX9_segmentSpokenAt_19 rfl rfl ?_
          refine gq_iload_n hC 3 dX9_segmentSpokenAt_20 rfl rfl ?_
          obtain ⟨r_3, hc_, hF⟩ := ob1_e hF
          refine gq_callVi hC [0, 1, 2] [(h_t_, .inr (9, [.int v_segmentCount, .int v_wordCount, .ref h_order, .ref h_durations, .ref h_pauses, .ref h_sizes, .ref h_words, .ref h_names])), (h_order, .inl (cI, 32, .inl v_order)), (h_durations, .inl (cI, 32, .inl v_durations))] [.int l3_2] [.int l2_1] (k_X9_durationOf l D cI cJ cZ cO z h_t_ h_order h_durations h_pauses h_sizes h_words h_names l3_2 v_segmentCount v_wordCount v_order v_durations r_3 hc_) gX9_segmentSpokenAt_X9_durationOf rfl ⟨rfl, rfl⟩ hy_X9_durationOf ⟨Nat.le_of_ble_eq_true rfl, Nat.le_of_ble_eq_true rfl⟩ rfl rfl rfl (q0 := 0) rfl rfl rfl (Nat.le_of_ble_eq_true rfl) rfl dX9_segmentSpokenAt_21 rfl rfl ?_
          refine gq_iadd hC dX9_segmentSpokenAt_24 ?_
          refine gq_istore_n hC [(2, .int (l2_1 + r_3)), (0, .ref h_t_), (1, .int x1), (3, .int l3_2)] dX9_segmentSpokenAt_25 rfl (by decide) rfl ?_
          refine gq_iload_n hC 2 dX9_segmentSpokenAt_26 rfl rfl ?_
          refine gq_iload_n hC 0 dX9_segmentSpokenAt_27 rfl rfl ?_
          refine gq_icmp_ge hC 33 dX9_segmentSpokenAt_28 (by decide) (fun hc_4 => ?_) (fun hc_4 => ?_)
          · have hF := (if_pos hc_4).symm.trans hF
            refine gq_iinc hC 3 (l3_2 + (1 : Int32)) [(3, .int (l3_2 + (1 : Int32))), (2, .int (l2_1 + r_3)), (0, .ref h_t_), (1, .int x1)] dX9_segmentSpokenAt_33 rfl rfl (by decide) rfl ?_
            refine gq_goto hC 10 dX9_segmentSpokenAt_36 (by decide) ?_
            refine gq_sub [(0, .ref h_t_), (1, .int x1), (2, .int (l2_1 + r_3)), (3, .int (l3_2 + (1 : Int32)))] [2, 3, 1, 0] rfl ?_
            exact ih (l2_1 + r_3) (l3_2 + (1 : Int32)) hF
          · have hF := (if_neg hc_4).symm.trans hF
            refine gq_sub [(3, .int l3_2)] [3] rfl ?_
            exact hx0 _ (Option.some.inj hF).symm
    refine gq_sub [(0, .ref h_t_), (1, .int x1), (2, .int (0 : Int32)), (3, .int (0 : Int32))] [2, 3, 1, 0] rfl ?_
    obtain ⟨o_, hw_, hF⟩ := ob1_e hF
    refine lp10  o_ ?_ ?_ wF (0 : Int32) (0 : Int32) hw_
    · intro e_7 ho_8
      subst ho_8
      have hF : (some e_7) = some _ := hF
      refine gq_iload_n hC 0 dX9_segmentSpokenAt_31 rfl rfl ?_
      cases hF
      rw [hQ]
      exact gq_iret hC rfl dX9_segmentSpokenAt_32
    · intro  ho_9
      subst ho_9
      have hF : (some (-1 : Int32)) = some _ := hF
      refine gq_iconst hC (-1 : Int32) dX9_segmentSpokenAt_39 (by decide) ?_
      cases hF
      rw [hQ]
      exact gq_iret hC rfl dX9_segmentSpokenAt_40
  · have hF := (if_neg hc_10).symm.trans hF
    refine gq_iconst hC (-1 : Int32) dX9_segmentSpokenAt_4 (by decide) ?_
    cases hF
    rw [hQ]
    exact gq_iret hC rfl dX9_segmentSpokenAt_5
theorem hy_X9_segmentOfRow : yX9_segmentOfRow.cls = RX9 ∧ yX9_segmentOfRow.cls ≠ "java/lang/invoke/MethodHandle" ∧ yX9_segmentOfRow.cls ≠ "java/lang/invoke/VarHandle" ∧ (parseMethodDescriptor yX9_segmentOfRow.desc).map (fun d => d.parameters.length) = some 1 := by decide +kernel
set_option maxRecDepth 20000 in
set_option maxHeartbeats 4000000 in
theorem k_X9_segmentOfRow (l : Launch) (D : va_G) (cI cJ cZ cO : ClassId) (z : Nat → Nat)   (h_t_ : Nat) (h_order : Nat) (h_durations : Nat) (h_pauses : Nat) (h_sizes : Nat) (h_words : Nat) (h_names : Nat) (x1 : Int32) (v_segmentCount : Int32) (v_wordCount : Int32) (v_order : Nat → Int32) (r_ : Int32) (hF : F_X9_segmentOfRow x1 v_segmentCount v_order = some r_) : Mi l yX9_segmentOfRow wsX9_segmentOfRow (rmD 0) D (gq_ty cI cJ cZ cO) z [.ref h_t_, .int x1] [(h_t_, .inr (9, [.int v_segmentCount, .int v_wordCount, .ref h_order, .ref h_durations, .ref h_pauses, .ref h_sizes, .ref h_words, .ref h_names])), (h_order, .inl (cI, 32, .inl v_order))] r_ [(h_t_, .inr (9, [.int v_segmentCount, .int v_wordCount, .ref h_order, .ref h_durations, .ref h_pauses, .ref h_sizes, .ref h_words, .ref h_names])), (h_order, .inl (cI, 32, .inl v_order))] 0 0 := by
  refine Mi.of (cc := cX9_segmentOfRow) (maxL := 3) (by decide) rfl (Nat.le_of_ble_eq_true rfl) ⟨Nat.le_refl 0, Nat.le_refl 0⟩ ?_
  intro p e s m args below meth c A hC ha
  have hin_X9 : ∀ w ∈ wsX90, w ∈ wsX9_segmentOfRow := by decide +kernel
  have hw_9 : Cond.fieldLink RX9 9 (TX9 2).1 (TX9 2).2.1 (TX9 2).2.2.1 ∈ wsX9_segmentOfRow := by decide +kernel
  have hw_31 : Cond.fieldLink RX9 31 (TX9 0).1 (TX9 0).2.1 (TX9 0).2.2.1 ∈ wsX9_segmentOfRow := by decide +kernel
  obtain ⟨Q, hQ⟩ : ∃ Q, Q = gq_Qi below D A args s r_ [(h_t_, .inr (9, [.int v_segmentCount, .int v_wordCount, .ref h_order, .ref h_durations, .ref h_pauses, .ref h_sizes, .ref h_words, .ref h_names])), (h_order, .inl (cI, 32, .inl v_order))] 0 0 := ⟨_, rfl⟩
  rw [← hQ]
  refine gq_loc [(0, .ref h_t_), (1, .int x1)] rfl ?_
  unfold F_X9_segmentOfRow at hF
  refine gq_iconst hC (0 : Int32) dX9_segmentOfRow_0 (by decide) ?_
  refine gq_istore_n hC [(2, .int (0 : Int32)), (0, .ref h_t_), (1, .int x1)] dX9_segmentOfRow_1 rfl (by decide) rfl ?_
  have lp2 : ∀ (out_ : (Int32) ⊕ (Unit)), (∀ (e_5 : Int32), out_ = .inl e_5 → Gx p l e (rmD 0) s m args below meth c D A 3 Q 0 0 20 [(2, .int e_5)] [] [(h_t_, .inr (9, [.int v_segmentCount, .int v_wordCount, .ref h_order, .ref h_durations, .ref h_pauses, .ref h_sizes, .ref h_words, .ref h_names])), (h_order, .inl (cI, 32, .inl v_order))]) → (out_ = .inr () → Gx p l e (rmD 0) s m args below meth c D A 3 Q 0 0 28 [] [] [(h_t_, .inr (9, [.int v_segmentCount, .int v_wordCount, .ref h_order, .ref h_durations, .ref h_pauses, .ref h_sizes, .ref h_words, .ref h_names])), (h_order, .inl (cI, 32, .inl v_order))]) → ∀ (N : Nat) (l2_1 : Int32), wh (fun k q => S_X9_segmentOfRow_2 x1 v_segmentCount v_order k q) N l2_1 = some out_ → Gx p l e (rmD 0) s m args below meth c D A 3 Q 0 0 2 [(0, .ref h_t_), (1, .int x1), (2, .int l2_1)] [] [(h_t_, .inr (9, [.int v_segmentCount, .int v_wordCount, .ref h_order, .ref h_durations, .ref h_pauses, .ref h_sizes, .ref h_words, .ref h_names])), (h_order, .inl (cI, 32, .inl v_order))] := by
    intro out_ hx0 hx1 N
    induction N with
    | zero => intro l2_1 hw; exact absurd hw (wh_0 _ _ _)
    | succ N ih =>
      intro l2_1 hw
      have hF : S_X9_segmentOfRow_2 x1 v_segmentCount v_order (wh (fun k q => S_X9_segmentOfRow_2 x1 v_segmentCount v_order k q) N) l2_1 = some out_ := hw
      unfold S_X9_segmentOfRow_2 at hF
      refine gq_iload_n hC 2 dX9_segmentOfRow_2 rfl rfl ?_
      refine gq_aload_n hC 0 dX9_segmentOfRow_3 rfl rfl ?_
      refine gq_get hC (kf := 0) 0 hin_X9 rfl rfl (by decide) hw_31 rfl dX9_segmentOfRow_4 ?_
      refine gq_icmp_ge hC 28 dX9_segmentOfRow_7 (by decide) (fun hc_4 => ?_) (fun hc_4 => ?_)
      · have hF := (if_pos hc_4).symm.trans hF
        refine gq_sub [] [] rfl ?_
        exact hx1  (Option.some.inj hF).symm
      · have hF := (if_neg hc_4).symm.trans hF
        refine gq_aload_n hC 0 dX9_segmentOfRow_10 rfl rfl ?_
        refine gq_get hC (kf := 2) 0 hin_X9 rfl rfl (by decide) hw_9 rfl dX9_segmentOfRow_11 ?_
        refine gq_iload_n hC 2 dX9_segmentOfRow_14 rfl rfl ?_
        obtain ⟨hi_2, hF⟩ := gi_e hF
        refine gq_iald hC 1 0 rfl rfl hi_2 dX9_segmentOfRow_15 ?_
        refine gq_iload_n hC 1 dX9_segmentOfRow_16 rfl rfl ?_
        refine gq_icmp_ne hC 22 dX9_segmentOfRow_17 (by decide) (fun hc_3 => ?_) (fun hc_3 => ?_)
        · have hF := (if_neg hc_3).symm.trans hF
          refine gq_iinc hC 2 (l2_1 + (1 : Int32)) [(2, .int (l2_1 + (1 : Int32))), (0, .ref h_t_), (1, .int x1)] dX9_segmentOfRow_22 rfl rfl (by decide) rfl ?_
          refine gq_goto hC 2 dX9_segmentOfRow_25 (by decide) ?_
          refine gq_sub [(0, .ref h_t_), (1, .int x1), (2, .int (l2_1 + (1 : Int32)))] [1, 2, 0] rfl ?_
          exact ih (l2_1 + (1 : Int32)) hF
        · have hF := (if_pos hc_3).symm.trans hF
          refine gq_sub [(2, .int l2_1)] [2] rfl ?_
          exact hx0 _ (Option.some.inj hF).symm
  refine gq_sub [(0, .ref h_t_), (1, .int x1), (2, .int (0 : Int32))] [1, 2, 0] rfl ?_
  obtain ⟨o_, hw_, hF⟩ := ob1_e hF
  refine lp2  o_ ?_ ?_ wF (0 : Int32) hw_
  · intro e_6 ho_7
    subst ho_7
    have hF : (some e_6) = some _ := hF
    refine gq_iload_n hC 0 dX9_segmentOfRow_20 rfl rfl ?_
    cases hF
    rw [hQ]
    exact gq_iret hC rfl dX9_segmentOfRow_21
  · intro  ho_8
    subst ho_8
    have hF : (some (-1 : Int32)) = some _ := hF
    refine gq_iconst hC (-1 : Int32) dX9_segmentOfRow_28 (by decide) ?_
    cases hF
    rw [hQ]
    exact gq_iret hC rfl dX9_segmentOfRow_29
theorem hy_X9_allWords : yX9_allWords.cls = RX9 ∧ yX9_allWords.cls ≠ "java/lang/invoke/MethodHandle" ∧ yX9_allWords.cls ≠ "java/lang/invoke/VarHandle" ∧ (parseMethodDescriptor yX9_allWords.desc).map (fun d => d.parameters.length) = some 0 := by decide +kernel
set_option maxRecDepth 20000 in
set_option maxHeartbeats 4000000 in
theorem k_X9_allWords (l : Launch) (D : va_G) (cI cJ cZ cO : ClassId) (z : Nat → Nat)   (h_t_ : Nat) (h_order : Nat) (h_sizes : Nat) (h_durations : Nat) (h_pauses : Nat) (h_words : Nat) (h_names : Nat)  (v_segmentCount : Int32) (v_wordCount : Int32) (v_order : Nat → Int32) (v_sizes : Nat → Int32) (r_ : Int32) (hF : F_X9_allWords v_segmentCount v_order v_sizes = some r_) : Mi l yX9_allWords wsX9_allWords (rmD 1) D (gq_ty cI cJ cZ cO) z [.ref h_t_] [(h_t_, .inr (9, [.int v_segmentCount, .int v_wordCount, .ref h_order, .ref h_durations, .ref h_pauses, .ref h_sizes, .ref h_words, .ref h_names])), (h_order, .inl (cI, 32, .inl v_order)), (h_sizes, .inl (cI, 32, .inl v_sizes))] r_ [(h_t_, .inr (9, [.int v_segmentCount, .int v_wordCount, .ref h_order, .ref h_durations, .ref h_pauses, .ref h_sizes, .ref h_words, .ref h_names])), (h_order, .inl (cI, 32, .inl v_order)), (h_sizes, .inl (cI, 32, .inl v_sizes))] 0 0 := by
  refine Mi.of (cc := cX9_allWords) (maxL := 3) (by decide) rfl (Nat.le_of_ble_eq_true rfl) ⟨Nat.le_refl 0, Nat.le_refl 0⟩ ?_
  intro p e s m args below meth c A hC ha
  have hin_X9 : ∀ w ∈ wsX90, w ∈ wsX9_allWords := by decide +kernel
  have hw_31 : Cond.fieldLink RX9 31 (TX9 0).1 (TX9 0).2.1 (TX9 0).2.2.1 ∈ wsX9_allWords := by decide +kernel
  obtain ⟨Q, hQ⟩ : ∃ Q, Q = gq_Qi below D A args s r_ [(h_t_, .inr (9, [.int v_segmentCount, .int v_wordCount, .ref h_order, .ref h_durations, .ref h_pauses, .ref h_sizes, .ref h_words, .ref h_names])), (h_order, .inl (cI, 32, .inl v_order)), (h_sizes, .inl (cI, 32, .inl v_sizes))] 0 0 := ⟨_, rfl⟩
  rw [← hQ]
  refine gq_loc [(0, .ref h_t_)] rfl ?_
  unfold F_X9_allWords at hF
  refine gq_iconst hC (0 : Int32) dX9_allWords_0 (by decide) ?_
  refine gq_istore_n hC [(1, .int (0 : Int32)), (0, .ref h_t_)] dX9_allWords_1 rfl (by decide) rfl ?_
  refine gq_iconst hC (0 : Int32) dX9_allWords_2 (by decide) ?_
  refine gq_istore_n hC [(2, .int (0 : Int32)), (1, .int (0 : Int32)), (0, .ref h_t_)] dX9_allWords_3 rfl (by decide) rfl ?_
  have lp4 : ∀ (e_5 : Int32), Gx p l e (rmD 1) s m args below meth c D A 3 Q 0 0 26 [(1, .int e_5)] [] [(h_t_, .inr (9, [.int v_segmentCount, .int v_wordCount, .ref h_order, .ref h_durations, .ref h_pauses, .ref h_sizes, .ref h_words, .ref h_names])), (h_order, .inl (cI, 32, .inl v_order)), (h_sizes, .inl (cI, 32, .inl v_sizes))] → ∀ (N : Nat) (l1_1 : Int32) (l2_2 : Int32), wh (fun k q => S_X9_allWords_4 v_segmentCount v_order v_sizes k q.1 q.2) N (l1_1, l2_2) = some e_5 → Gx p l e (rmD 1) s m args below meth c D A 3 Q 0 0 4 [(0, .ref h_t_), (1, .int l1_1), (2, .int l2_2)] [] [(h_t_, .inr (9, [.int v_segmentCount, .int v_wordCount, .ref h_order, .ref h_durations, .ref h_pauses, .ref h_sizes, .ref h_words, .ref h_names])), (h_order, .inl (cI, 32, .inl v_order)), (h_sizes, .inl (cI, 32, .inl v_sizes))] := by
    intro e_5 hx0 N
    induction N with
    | zero => intro l1_1 l2_2 hw; exact absurd hw (wh_0 _ _ _)
    | succ N ih =>
      intro l1_1 l2_2 hw
      have hF : S_X9_allWords_4 v_segmentCount v_order v_sizes (wh (fun k q => S_X9_allWords_4 v_segmentCount v_order v_sizes k q.1 q.2) N) l1_1 l2_2 = some e_5 := hw
      unfold S_X9_allWords_4 at hF
      refine gq_iload_n hC 2 dX9_allWords_4 rfl rfl ?_
      refine gq_aload_n hC 0 dX9_allWords_5 rfl rfl ?_
      refine gq_get hC (kf := 0) 0 hin_X9 rfl rfl (by decide) hw_31 rfl dX9_allWords_6 ?_
      refine gq_icmp_ge hC 26 dX9_allWords_9 (by decide) (fun hc_4 => ?_) (fun hc_4 => ?_)
      · have hF := (if_pos hc_4).symm.trans hF
        refine gq_sub [(1, .int l1_1)] [1] rfl ?_
        cases hF
        exact hx0
      · have hF := (if_neg hc_4).symm.trans hF
        refine gq_iload_n hC 1 dX9_allWords_12 rfl rfl ?_
        refine gq_aload_n hC 0 dX9_allWords_13 rfl rfl ?_
        refine gq_iload_n hC 2 dX9_allWords_14 rfl rfl ?_
        obtain ⟨r_3, hc_, hF⟩ := ob1_e hF
        refine gq_callVi hC [0, 1, 2] [(h_t_, .inr (9, [.int v_segmentCount, .int v_wordCount, .ref h_order, .ref h_durations, .ref h_pauses, .ref h_sizes, .ref h_words, .ref h_names])), (h_order, .inl (cI, 32, .inl v_order)), (h_sizes, .inl (cI, 32, .inl v_sizes))] [.int l2_2] [.int l1_1] (k_X9_sizeOf l D cI cJ cZ cO z h_t_ h_order h_sizes h_durations h_pauses h_words h_names l2_2 v_segmentCount v_wordCount v_order v_sizes r_3 hc_) gX9_allWords_X9_sizeOf rfl ⟨rfl, rfl⟩ hy_X9_sizeOf ⟨Nat.le_of_ble_eq_true rfl, Nat.le_of_ble_eq_true rfl⟩ rfl rfl rfl (q0 := 0) rfl rfl rfl (Nat.le_of_ble_eq_true rfl) rfl dX9_allWords_15 rfl rfl ?_
        refine gq_iadd hC dX9_allWords_18 ?_
        refine gq_istore_n hC [(1, .int (l1_1 + r_3)), (0, .ref h_t_), (2, .int l2_2)] dX9_allWords_19 rfl (by decide) rfl ?_
        refine gq_iinc hC 2 (l2_2 + (1 : Int32)) [(2, .int (l2_2 + (1 : Int32))), (1, .int (l1_1 + r_3)), (0, .ref h_t_)] dX9_allWords_20 rfl rfl (by decide) rfl ?_
        refine gq_goto hC 4 dX9_allWords_23 (by decide) ?_
        refine gq_sub [(0, .ref h_t_), (1, .int (l1_1 + r_3)), (2, .int (l2_2 + (1 : Int32)))] [2, 1, 0] rfl ?_
        exact ih (l1_1 + r_3) (l2_2 + (1 : Int32)) hF
  refine gq_sub [(0, .ref h_t_), (1, .int (0 : Int32)), (2, .int (0 : Int32))] [2, 1, 0] rfl ?_
  obtain ⟨e_6, hw_, hF⟩ := ob1_e hF
  refine lp4  e_6 ?_ wF (0 : Int32) (0 : Int32) hw_
  refine gq_iload_n hC 0 dX9_allWords_26 rfl rfl ?_
  cases hF
  rw [hQ]
  exact gq_iret hC rfl dX9_allWords_27
theorem hy_X9_longPauses : yX9_longPauses.cls = RX9 ∧ yX9_longPauses.cls ≠ "java/lang/invoke/MethodHandle" ∧ yX9_longPauses.cls ≠ "java/lang/invoke/VarHandle" ∧ (parseMethodDescriptor yX9_longPauses.desc).map (fun d => d.parameters.length) = some 1 := by decide +kernel
set_option maxRecDepth 20000 in
set_option maxHeartbeats 4000000 in
theorem k_X9_longPauses (l : Launch) (D : va_G) (cI cJ cZ cO : ClassId) (z : Nat → Nat)   (h_t_ : Nat) (h_order : Nat) (h_pauses : Nat) (h_durations : Nat) (h_sizes : Nat) (h_words : Nat) (h_names : Nat) (x1 : Int32) (v_segmentCount : Int32) (v_wordCount : Int32) (v_order : Nat → Int32) (v_pauses : Nat → Int32) (r_ : Int32) (hF : F_X9_longPauses x1 v_segmentCount v_order v_pauses = some r_) : Mi l yX9_longPauses wsX9_longPauses (rmD 1) D (gq_ty cI cJ cZ cO) z [.ref h_t_, .int x1] [(h_t_, .inr (9, [.int v_segmentCount, .int v_wordCount, .ref h_order, .ref h_durations, .ref h_pauses, .ref h_sizes, .ref h_words, .ref h_names])), (h_order, .inl (cI, 32, .inl v_order)), (h_pauses, .inl (cI, 32, .inl v_pauses))] r_ [(h_t_, .inr (9, [.int v_segmentCount, .int v_wordCount, .ref h_order, .ref h_durations, .ref h_pauses, .ref h_sizes, .ref h_words, .ref h_names])), (h_order, .inl (cI, 32, .inl v_order)), (h_pauses, .inl (cI, 32, .inl v_pauses))] 0 0 := by
  refine Mi.of (cc := cX9_longPauses) (maxL := 4) (by decide) rfl (Nat.le_of_ble_eq_true rfl) ⟨Nat.le_refl 0, Nat.le_refl 0⟩ ?_
  intro p e s m args below meth c A hC ha
  obtain ⟨Q, hQ⟩ : ∃ Q, Q = gq_Qi below D A args s r_ [(h_t_, .inr (9, [.int v_segmentCount, .int v_wordCount, .ref h_order, .ref h_durations, .ref h_pauses, .ref h_sizes, .ref h_words, .ref h_names])), (h_order, .inl (cI, 32, .inl v_order)), (h_pauses, .inl (cI, 32, .inl v_pauses))] 0 0 := ⟨_, rfl⟩
  rw [← hQ]
  refine gq_loc [(0, .ref h_t_), (1, .int x1)] rfl ?_
  unfold F_X9_longPauses at hF
  refine gq_iconst hC (0 : Int32) dX9_longPauses_0 (by decide) ?_
  refine gq_istore_n hC [(2, .int (0 : Int32)), (0, .ref h_t_), (1, .int x1)] dX9_longPauses_1 rfl (by decide) rfl ?_
  refine gq_iconst hC (0 : Int32) dX9_longPauses_2 (by decide) ?_
  refine gq_istore_n hC [(3, .int (0 : Int32)), (2, .int (0 : Int32)), (0, .ref h_t_), (1, .int x1)] dX9_longPauses_3 rfl (by decide) rfl ?_
  have lp4 : ∀ (e_7 : Int32), Gx p l e (rmD 1) s m args below meth c D A 4 Q 0 0 30 [(2, .int e_7)] [] [(h_t_, .inr (9, [.int v_segmentCount, .int v_wordCount, .ref h_order, .ref h_durations, .ref h_pauses, .ref h_sizes, .ref h_words, .ref h_names])), (h_order, .inl (cI, 32, .inl v_order)), (h_pauses, .inl (cI, 32, .inl v_pauses))] → ∀ (N : Nat) (l2_1 : Int32) (l3_2 : Int32), wh (fun k q => S_X9_longPauses_4 x1 v_segmentCount v_order v_pauses k q.1 q.2) N (l2_1, l3_2) = some e_7 → Gx p l e (rmD 1) s m args below meth c D A 4 Q 0 0 4 [(0, .ref h_t_), (1, .int x1), (2, .int l2_1), (3, .int l3_2)] [] [(h_t_, .inr (9, [.int v_segmentCount, .int v_wordCount, .ref h_order, .ref h_durations, .ref h_pauses, .ref h_sizes, .ref h_words, .ref h_names])), (h_order, .inl (cI, 32, .inl v_order)), (h_pauses, .inl (cI, 32, .inl v_pauses))] := by
    intro e_7 hx0 N
    induction N with
    | zero => intro l2_1 l3_2 hw; exact absurd hw (wh_0 _ _ _)
    | succ N ih =>
      intro l2_1 l3_2 hw
      have hF : S_X9_longPauses_4 x1 v_segmentCount v_order v_pauses (wh (fun k q => S_X9_longPauses_4 x1 v_segmentCount v_order v_pauses k q.1 q.2) N) l2_1 l3_2 = some e_7 := hw
      unfold S_X9_longPauses_4 at hF
      refine gq_iload_n hC 3 dX9_longPauses_4 rfl rfl ?_
      refine gq_aload_n hC 0 dX9_longPauses_5 rfl rfl ?_
      obtain ⟨r_3, hc_, hF⟩ := ob1_e hF
      refine gq_callVi hC [0] [(h_t_, .inr (9, [.int v_segmentCount, .int v_wordCount, .ref h_order, .ref h_durations, .ref h_pauses, .ref h_sizes, .ref h_words, .ref h_names])), (h_order, .inl (cI, 32, .inl v_order)), (h_pauses, .inl (cI, 32, .inl v_pauses))] [] [.int l3_2] (k_X9_boundaryCount l D cI cJ cZ cO z h_t_ h_order h_durations h_pauses h_sizes h_words h_names v_segmentCount v_wordCount r_3 hc_) gX9_longPauses_X9_boundaryCount rfl ⟨rfl, rfl⟩ hy_X9_boundaryCount ⟨Nat.le_of_ble_eq_true rfl, Nat.le_of_ble_eq_true rfl⟩ rfl rfl rfl (q0 := 0) rfl rfl rfl (Nat.le_of_ble_eq_true rfl) rfl dX9_longPauses_6 rfl rfl ?_
      refine gq_icmp_ge hC 30 dX9_longPauses_9 (by decide) (fun hc_6 => ?_) (fun hc_6 => ?_)
      · have hF := (if_pos hc_6).symm.trans hF
        refine gq_sub [(2, .int l2_1)] [2] rfl ?_
        cases hF
        exact hx0
      · have hF := (if_neg hc_6).symm.trans hF
        refine gq_aload_n hC 0 dX9_longPauses_12 rfl rfl ?_
        refine gq_iload_n hC 3 dX9_longPauses_13 rfl rfl ?_
        obtain ⟨r_4, hc_, hF⟩ := ob1_e hF
        refine gq_callVi hC [0, 1, 2] [(h_t_, .inr (9, [.int v_segmentCount, .int v_wordCount, .ref h_order, .ref h_durations, .ref h_pauses, .ref h_sizes, .ref h_words, .ref h_names])), (h_order, .inl (cI, 32, .inl v_order)), (h_pauses, .inl (cI, 32, .inl v_pauses))] [.int l3_2] [] (k_X9_pauseOf l D cI cJ cZ cO z h_t_ h_order h_pauses h_durations h_sizes h_words h_names l3_2 v_segmentCount v_wordCount v_order v_pauses r_4 hc_) gX9_longPauses_X9_pauseOf rfl ⟨rfl, rfl⟩ hy_X9_pauseOf ⟨Nat.le_of_ble_eq_true rfl, Nat.le_of_ble_eq_true rfl⟩ rfl rfl rfl (q0 := 0) rfl rfl rfl (Nat.le_of_ble_eq_true rfl) rfl dX9_longPauses_14 rfl rfl ?_
        refine gq_iload_n hC 1 dX9_longPauses_17 rfl rfl ?_
        refine gq_icmp_lt hC 24 dX9_longPauses_18 (by decide) (fun hc_5 => ?_) (fun hc_5 => ?_)
        · have hF := (if_pos hc_5).symm.trans hF
          refine gq_iinc hC 3 (l3_2 + (1 : Int32)) [(3, .int (l3_2 + (1 : Int32))), (0, .ref h_t_), (1, .int x1), (2, .int l2_1)] dX9_longPauses_24 rfl rfl (by decide) rfl ?_
          refine gq_goto hC 4 dX9_longPauses_27 (by decide) ?_
          refine gq_sub [(0, .ref h_t_), (1, .int x1), (2, .int l2_1), (3, .int (l3_2 + (1 : Int32)))] [1, 2, 3, 0] rfl ?_
          exact ih l2_1 (l3_2 + (1 : Int32)) hF
        · have hF := (if_neg hc_5).symm.trans hF
          refine gq_iinc hC 2 (l2_1 + (1 : Int32)) [(2, .int (l2_1 + (1 : Int32))), (0, .ref h_t_), (1, .int x1), (3, .int l3_2)] dX9_longPauses_21 rfl rfl (by decide) rfl ?_
          refine gq_iinc hC 3 (l3_2 + (1 : Int32)) [(3, .int (l3_2 + (1 : Int32))), (2, .int (l2_1 + (1 : Int32))), (0, .ref h_t_), (1, .int x1)] dX9_longPauses_24 rfl rfl (by decide) rfl ?_
          refine gq_goto hC 4 dX9_longPauses_27 (by decide) ?_
          refine gq_sub [(0, .ref h_t_), (1, .int x1), (2, .int (l2_1 + (1 : Int32))), (3, .int (l3_2 + (1 : Int32)))] [2, 3, 1, 0] rfl ?_
          exact ih (l2_1 + (1 : Int32)) (l3_2 + (1 : Int32)) hF
  refine gq_sub [(0, .ref h_t_), (1, .int x1), (2, .int (0 : Int32)), (3, .int (0 : Int32))] [2, 3, 1, 0] rfl ?_
  obtain ⟨e_8, hw_, hF⟩ := ob1_e hF
  refine lp4  e_8 ?_ wF (0 : Int32) (0 : Int32) hw_
  refine gq_iload_n hC 0 dX9_longPauses_30 rfl rfl ?_
  cases hF
  rw [hQ]
  exact gq_iret hC rfl dX9_longPauses_31
theorem hy_X9_numberOf : yX9_numberOf.cls = RX9 ∧ yX9_numberOf.cls ≠ "java/lang/invoke/MethodHandle" ∧ yX9_numberOf.cls ≠ "java/lang/invoke/VarHandle" ∧ (parseMethodDescriptor yX9_numberOf.desc).map (fun d => d.parameters.length) = some 1 := by decide +kernel
set_option maxRecDepth 20000 in
set_option maxHeartbeats 4000000 in
theorem k_X9_numberOf (l : Launch) (D : va_G) (cI cJ cZ cO : ClassId) (z : Nat → Nat)   (h_t_ : Nat) (h_names : Nat) (h_order : Nat) (h_durations : Nat) (h_pauses : Nat) (h_sizes : Nat) (h_words : Nat) (x1 : Int64) (v_segmentCount : Int32) (v_wordCount : Int32) (v_names : Nat → Int64) (r_ : Int32) (hF : F_X9_numberOf x1 v_wordCount v_names = some r_) : Mi l yX9_numberOf wsX9_numberOf (rmD 0) D (gq_ty cI cJ cZ cO) z [.ref h_t_, .long x1] [(h_t_, .inr (9, [.int v_segmentCount, .int v_wordCount, .ref h_order, .ref h_durations, .ref h_pauses, .ref h_sizes, .ref h_words, .ref h_names])), (h_names, .inl (cJ, 24, .inr (.inl v_names)))] r_ [(h_t_, .inr (9, [.int v_segmentCount, .int v_wordCount, .ref h_order, .ref h_durations, .ref h_pauses, .ref h_sizes, .ref h_words, .ref h_names])), (h_names, .inl (cJ, 24, .inr (.inl v_names)))] 0 0 := by
  refine Mi.of (cc := cX9_numberOf) (maxL := 4) (by decide) rfl (Nat.le_of_ble_eq_true rfl) ⟨Nat.le_refl 0, Nat.le_refl 0⟩ ?_
  intro p e s m args below meth c A hC ha
  have hin_X9 : ∀ w ∈ wsX90, w ∈ wsX9_numberOf := by decide +kernel
  have hw_27 : Cond.fieldLink RX9 27 (TX9 7).1 (TX9 7).2.1 (TX9 7).2.2.1 ∈ wsX9_numberOf := by decide +kernel
  have hw_35 : Cond.fieldLink RX9 35 (TX9 1).1 (TX9 1).2.1 (TX9 1).2.2.1 ∈ wsX9_numberOf := by decide +kernel
  obtain ⟨Q, hQ⟩ : ∃ Q, Q = gq_Qi below D A args s r_ [(h_t_, .inr (9, [.int v_segmentCount, .int v_wordCount, .ref h_order, .ref h_durations, .ref h_pauses, .ref h_sizes, .ref h_words, .ref h_names])), (h_names, .inl (cJ, 24, .inr (.inl v_names)))] 0 0 := ⟨_, rfl⟩
  rw [← hQ]
  refine gq_loc [(0, .ref h_t_), (1, .long x1)] rfl ?_
  unfold F_X9_numberOf at hF
  refine gq_iconst hC (0 : Int32) dX9_numberOf_0 (by decide) ?_
  refine gq_istore_n hC [(3, .int (0 : Int32)), (0, .ref h_t_), (1, .long x1)] dX9_numberOf_1 rfl (by decide) rfl ?_
  have lp2 : ∀ (out_ : (Int32) ⊕ (Unit)), (∀ (e_5 : Int32), out_ = .inl e_5 → Gx p l e (rmD 0) s m args below meth c D A 4 Q 0 0 21 [(3, .int e_5)] [] [(h_t_, .inr (9, [.int v_segmentCount, .int v_wordCount, .ref h_order, .ref h_durations, .ref h_pauses, .ref h_sizes, .ref h_words, .ref h_names])), (h_names, .inl (cJ, 24, .inr (.inl v_names)))]) → (out_ = .inr () → Gx p l e (rmD 0) s m args below meth c D A 4 Q 0 0 29 [] [] [(h_t_, .inr (9, [.int v_segmentCount, .int v_wordCount, .ref h_order, .ref h_durations, .ref h_pauses, .ref h_sizes, .ref h_words, .ref h_names])), (h_names, .inl (cJ, 24, .inr (.inl v_names)))]) → ∀ (N : Nat) (l3_1 : Int32), wh (fun k q => S_X9_numberOf_2 x1 v_wordCount v_names k q) N l3_1 = some out_ → Gx p l e (rmD 0) s m args below meth c D A 4 Q 0 0 2 [(0, .ref h_t_), (1, .long x1), (3, .int l3_1)] [] [(h_t_, .inr (9, [.int v_segmentCount, .int v_wordCount, .ref h_order, .ref h_durations, .ref h_pauses, .ref h_sizes, .ref h_words, .ref h_names])), (h_names, .inl (cJ, 24, .inr (.inl v_names)))] := by
    intro out_ hx0 hx1 N
    induction N with
    | zero => intro l3_1 hw; exact absurd hw (wh_0 _ _ _)
    | succ N ih =>
      intro l3_1 hw
      have hF : S_X9_numberOf_2 x1 v_wordCount v_names (wh (fun k q => S_X9_numberOf_2 x1 v_wordCount v_names k q) N) l3_1 = some out_ := hw
      unfold S_X9_numberOf_2 at hF
      refine gq_iload_n hC 2 dX9_numberOf_2 rfl rfl ?_
      refine gq_aload_n hC 0 dX9_numberOf_3 rfl rfl ?_
      refine gq_get hC (kf := 1) 0 hin_X9 rfl rfl (by decide) hw_35 rfl dX9_numberOf_4 ?_
      refine gq_icmp_ge hC 29 dX9_numberOf_7 (by decide) (fun hc_4 => ?_) (fun hc_4 => ?_)
      · have hF := (if_pos hc_4).symm.trans hF
        refine gq_sub [] [] rfl ?_
        exact hx1  (Option.some.inj hF).symm
      · have hF := (if_neg hc_4).symm.trans hF
        refine gq_aload_n hC 0 dX9_numberOf_10 rfl rfl ?_
        refine gq_get hC (kf := 7) 0 hin_X9 rfl rfl (by decide) hw_27 rfl dX9_numberOf_11 ?_
        refine gq_iload_n hC 2 dX9_numberOf_14 rfl rfl ?_
        obtain ⟨hi_2, hF⟩ := gi_e hF
        refine gq_lald hC 1 1 rfl rfl hi_2 dX9_numberOf_15 ?_
        refine gq_lload_n hC 1 dX9_numberOf_16 rfl rfl ?_
        refine gq_lcmp hC dX9_numberOf_17 ?_
        refine gq_if_ne hC 23 dX9_numberOf_18 (by decide) (fun hc_3 => ?_) (fun hc_3 => ?_)
        · have hF := (if_neg hc_3).symm.trans hF
          refine gq_iinc hC 2 (l3_1 + (1 : Int32)) [(3, .int (l3_1 + (1 : Int32))), (0, .ref h_t_), (1, .long x1)] dX9_numberOf_23 rfl rfl (by decide) rfl ?_
          refine gq_goto hC 2 dX9_numberOf_26 (by decide) ?_
          refine gq_sub [(0, .ref h_t_), (1, .long x1), (3, .int (l3_1 + (1 : Int32)))] [1, 2, 0] rfl ?_
          exact ih (l3_1 + (1 : Int32)) hF
        · have hF := (if_pos hc_3).symm.trans hF
          refine gq_sub [(3, .int l3_1)] [2] rfl ?_
          exact hx0 _ (Option.some.inj hF).symm
  refine gq_sub [(0, .ref h_t_), (1, .long x1), (3, .int (0 : Int32))] [1, 2, 0] rfl ?_
  obtain ⟨o_, hw_, hF⟩ := ob1_e hF
  refine lp2  o_ ?_ ?_ wF (0 : Int32) hw_
  · intro e_6 ho_7
    subst ho_7
    have hF : (some e_6) = some _ := hF
    refine gq_iload_n hC 0 dX9_numberOf_21 rfl rfl ?_
    cases hF
    rw [hQ]
    exact gq_iret hC rfl dX9_numberOf_22
  · intro  ho_8
    subst ho_8
    have hF : (some (-1 : Int32)) = some _ := hF
    refine gq_iconst hC (-1 : Int32) dX9_numberOf_29 (by decide) ?_
    cases hF
    rw [hQ]
    exact gq_iret hC rfl dX9_numberOf_30
theorem hy_X9_mention : yX9_mention.cls = RX9 ∧ yX9_mention.cls ≠ "java/lang/invoke/MethodHandle" ∧ yX9_mention.cls ≠ "java/lang/invoke/VarHandle" ∧ (parseMethodDescriptor yX9_mention.desc).map (fun d => d.parameters.length) = some 1 := by decide +kernel
set_option maxRecDepth 20000 in
set_option maxHeartbeats 4000000 in
theorem k_X9_mention (l : Launch) (D : va_G) (cI cJ cZ cO : ClassId) (z : Nat → Nat)   (h_t_ : Nat) (h_names : Nat) (h_order : Nat) (h_durations : Nat) (h_pauses : Nat) (h_sizes : Nat) (h_words : Nat) (x1 : Int64) (v_segmentCount : Int32) (v_wordCount : Int32) (v_names : Nat → Int64) (r_ : Int32) (w_wordCount : Int32) (w_names : Nat → Int64) (hF : F_X9_mention x1 v_wordCount v_names = some (r_, w_wordCount, w_names)) : Mi l yX9_mention wsX9_mention (rmD 1) D (gq_ty cI cJ cZ cO) z [.ref h_t_, .long x1] [(h_t_, .inr (9, [.int v_segmentCount, .int v_wordCount, .ref h_order, .ref h_durations, .ref h_pauses, .ref h_sizes, .ref h_words, .ref h_names])), (h_names, .inl (cJ, 24, .inr (.inl v_names)))] r_ [(h_t_, .inr (9, [.int v_segmentCount, .int w_wordCount, .ref h_order, .ref h_durations, .ref h_pauses, .ref h_sizes, .ref h_words, .ref h_names])), (h_names, .inl (cJ, 24, .inr (.inl w_names)))] 0 0 := by
  refine Mi.of (cc := cX9_mention) (maxL := 4) (by decide) rfl (Nat.le_of_ble_eq_true rfl) ⟨Nat.le_refl 0, Nat.le_refl 0⟩ ?_
  intro p e s m args below meth c A hC ha
  have hin_X9 : ∀ w ∈ wsX90, w ∈ wsX9_mention := by decide +kernel
  have hw_27 : Cond.fieldLink RX9 27 (TX9 7).1 (TX9 7).2.1 (TX9 7).2.2.1 ∈ wsX9_mention := by decide +kernel
  have hw_35 : Cond.fieldLink RX9 35 (TX9 1).1 (TX9 1).2.1 (TX9 1).2.2.1 ∈ wsX9_mention := by decide +kernel
  obtain ⟨Q, hQ⟩ : ∃ Q, Q = gq_Qi below D A args s r_ [(h_t_, .inr (9, [.int v_segmentCount, .int w_wordCount, .ref h_order, .ref h_durations, .ref h_pauses, .ref h_sizes, .ref h_words, .ref h_names])), (h_names, .inl (cJ, 24, .inr (.inl w_names)))] 0 0 := ⟨_, rfl⟩
  rw [← hQ]
  refine gq_loc [(0, .ref h_t_), (1, .long x1)] rfl ?_
  unfold F_X9_mention at hF
  refine gq_aload_n hC 0 dX9_mention_0 rfl rfl ?_
  refine gq_lload_n hC 1 dX9_mention_1 rfl rfl ?_
  obtain ⟨r_1, hc_, hF⟩ := ob1_e hF
  refine gq_callVi hC [0, 1] [(h_t_, .inr (9, [.int v_segmentCount, .int v_wordCount, .ref h_order, .ref h_durations, .ref h_pauses, .ref h_sizes, .ref h_words, .ref h_names])), (h_names, .inl (cJ, 24, .inr (.inl v_names)))] [.long x1] [] (k_X9_numberOf l D cI cJ cZ cO z h_t_ h_names h_order h_durations h_pauses h_sizes h_words x1 v_segmentCount v_wordCount v_names r_1 hc_) gX9_mention_X9_numberOf rfl ⟨rfl, rfl⟩ hy_X9_numberOf ⟨Nat.le_of_ble_eq_true rfl, Nat.le_of_ble_eq_true rfl⟩ rfl rfl rfl (q0 := 0) rfl rfl rfl (Nat.le_of_ble_eq_true rfl) rfl dX9_mention_2 rfl rfl ?_
  refine gq_istore_n hC [(3, .int r_1), (0, .ref h_t_), (1, .long x1)] dX9_mention_5 rfl (by decide) rfl ?_
  refine gq_iload_n hC 0 dX9_mention_6 rfl rfl ?_
  refine gq_iconst hC (-1 : Int32) dX9_mention_7 (by decide) ?_
  refine gq_icmp_ne hC 20 dX9_mention_8 (by decide) (fun hc_4 => ?_) (fun hc_4 => ?_)
  · have hF := (if_neg hc_4).symm.trans hF
    refine gq_iload_n hC 0 dX9_mention_20 rfl rfl ?_
    cases hF
    rw [hQ]
    exact gq_iret hC rfl dX9_mention_21
  · have hF := (if_pos hc_4).symm.trans hF
    refine gq_aload_n hC 1 dX9_mention_11 rfl rfl ?_
    refine gq_get hC (kf := 1) 0 hin_X9 rfl rfl (by decide) hw_35 rfl dX9_mention_12 ?_
    refine gq_bipush hC (24 : Int32) dX9_mention_15 (by decide) ?_
    refine gq_icmp_lt hC 22 dX9_mention_17 (by decide) (fun hc_3 => ?_) (fun hc_3 => ?_)
    · have hF := (if_pos hc_3).symm.trans hF
      refine gq_aload_n hC 1 dX9_mention_22 rfl rfl ?_
      refine gq_get hC (kf := 7) 0 hin_X9 rfl rfl (by decide) hw_27 rfl dX9_mention_23 ?_
      refine gq_aload_n hC 1 dX9_mention_26 rfl rfl ?_
      refine gq_get hC (kf := 1) 0 hin_X9 rfl rfl (by decide) hw_35 rfl dX9_mention_27 ?_
      refine gq_lload_n hC 2 dX9_mention_30 rfl rfl ?_
      obtain ⟨hi_2, hF⟩ := gi_e hF
      refine gq_last hC 1 1 [(h_t_, .inr (9, [.int v_segmentCount, .int v_wordCount, .ref h_order, .ref h_durations, .ref h_pauses, .ref h_sizes, .ref h_words, .ref h_names])), (h_names, .inl (cJ, 24, .inr (.inl (vp_updL v_names v_wordCount.toNatClampNeg x1))))] rfl rfl hi_2 dX9_mention_31 rfl ?_
      refine gq_aload_n hC 1 dX9_mention_32 rfl rfl ?_
      refine gq_dup hC dX9_mention_33 rfl ?_
      refine gq_get hC (kf := 1) 0 hin_X9 rfl rfl (by decide) hw_35 rfl dX9_mention_34 ?_
      refine gq_iconst hC (1 : Int32) dX9_mention_37 (by decide) ?_
      refine gq_iadd hC dX9_mention_38 ?_
      refine gq_put1 hC (kf := 1) 0 [(h_t_, .inr (9, [.int v_segmentCount, .int (v_wordCount + (1 : Int32)), .ref h_order, .ref h_durations, .ref h_pauses, .ref h_sizes, .ref h_words, .ref h_names])), (h_names, .inl (cJ, 24, .inr (.inl (vp_updL v_names v_wordCount.toNatClampNeg x1))))] tyX9 tyX9_ok nmX9 hin_X9 rfl rfl (by decide) hw_35 rfl rfl rfl (Nat.le_of_ble_eq_true rfl) dX9_mention_39 rfl ?_
      refine gq_aload_n hC 1 dX9_mention_42 rfl rfl ?_
      refine gq_get hC (kf := 1) 0 hin_X9 rfl rfl (by decide) hw_35 rfl dX9_mention_43 ?_
      refine gq_iconst hC (1 : Int32) dX9_mention_46 (by decide) ?_
      refine gq_isub hC dX9_mention_47 ?_
      cases hF
      rw [hQ]
      exact gq_iret hC rfl dX9_mention_48
    · have hF := (if_neg hc_3).symm.trans hF
      refine gq_iload_n hC 0 dX9_mention_20 rfl rfl ?_
      cases hF
      rw [hQ]
      exact gq_iret hC rfl dX9_mention_21
theorem hy_X9_countIn : yX9_countIn.cls = RX9 ∧ yX9_countIn.cls ≠ "java/lang/invoke/MethodHandle" ∧ yX9_countIn.cls ≠ "java/lang/invoke/VarHandle" ∧ (parseMethodDescriptor yX9_countIn.desc).map (fun d => d.parameters.length) = some 3 := by decide +kernel
set_option maxRecDepth 20000 in
set_option maxHeartbeats 4000000 in
theorem k_X9_countIn (l : Launch) (D : va_G) (cI cJ cZ cO : ClassId) (z : Nat → Nat)   (h_t_ : Nat) (h_order : Nat) (h_sizes : Nat) (h_words : Nat) (h_durations : Nat) (h_pauses : Nat) (h_names : Nat) (x1 : Int32) (x2 : Int32) (x3 : Int32) (v_segmentCount : Int32) (v_wordCount : Int32) (v_order : Nat → Int32) (v_sizes : Nat → Int32) (v_words : Nat → Int32) (r_ : Int32) (hF : F_X9_countIn x1 x2 x3 v_order v_sizes v_words = some r_) : Mi l yX9_countIn wsX9_countIn (rmD 1) D (gq_ty cI cJ cZ cO) z [.ref h_t_, .int x1, .int x2, .int x3] [(h_t_, .inr (9, [.int v_segmentCount, .int v_wordCount, .ref h_order, .ref h_durations, .ref h_pauses, .ref h_sizes, .ref h_words, .ref h_names])), (h_order, .inl (cI, 32, .inl v_order)), (h_sizes, .inl (cI, 32, .inl v_sizes)), (h_words, .inl (cI, 256, .inl v_words))] r_ [(h_t_, .inr (9, [.int v_segmentCount, .int v_wordCount, .ref h_order, .ref h_durations, .ref h_pauses, .ref h_sizes, .ref h_words, .ref h_names])), (h_order, .inl (cI, 32, .inl v_order)), (h_sizes, .inl (cI, 32, .inl v_sizes)), (h_words, .inl (cI, 256, .inl v_words))] 0 0 := by
  refine Mi.of (cc := cX9_countIn) (maxL := 8) (by decide) rfl (Nat.le_of_ble_eq_true rfl) ⟨Nat.le_refl 0, Nat.le_refl 0⟩ ?_
  intro p e s m args below meth c A hC ha
  obtain ⟨Q, hQ⟩ : ∃ Q, Q = gq_Qi below D A args s r_ [(h_t_, .inr (9, [.int v_segmentCount, .int v_wordCount, .ref h_order, .ref h_durations, .ref h_pauses, .ref h_sizes, .ref h_words, .ref h_names])), (h_order, .inl (cI, 32, .inl v_order)), (h_sizes, .inl (cI, 32, .inl v_sizes)), (h_words, .inl (cI, 256, .inl v_words))] 0 0 := ⟨_, rfl⟩
  rw [← hQ]
  refine gq_loc [(0, .ref h_t_), (1, .int x1), (2, .int x2), (3, .int x3)] rfl ?_
  unfold F_X9_countIn at hF
  refine gq_iconst hC (0 : Int32) dX9_countIn_0 (by decide) ?_
  refine gq_istore hC [(4, .int (0 : Int32)), (0, .ref h_t_), (1, .int x1), (2, .int x2), (3, .int x3)] dX9_countIn_1 (by decide) rfl ?_
  refine gq_iload_n hC 3 dX9_countIn_3 rfl rfl ?_
  refine gq_istore hC [(5, .int x2), (4, .int (0 : Int32)), (0, .ref h_t_), (1, .int x1), (2, .int x2), (3, .int x3)] dX9_countIn_4 (by decide) rfl ?_
  have lp6 : ∀ (e_14 : Int32), Gx p l e (rmD 1) s m args below meth c D A 8 Q 0 0 57 [(4, .int e_14)] [] [(h_t_, .inr (9, [.int v_segmentCount, .int v_wordCount, .ref h_order, .ref h_durations, .ref h_pauses, .ref h_sizes, .ref h_words, .ref h_names])), (h_order, .inl (cI, 32, .inl v_order)), (h_sizes, .inl (cI, 32, .inl v_sizes)), (h_words, .inl (cI, 256, .inl v_words))] → ∀ (N : Nat) (l4_1 : Int32) (l5_2 : Int32), wh (fun k q => S_X9_countIn_6 x1 x3 v_order v_sizes v_words k q.1 q.2) N (l4_1, l5_2) = some e_14 → Gx p l e (rmD 1) s m args below meth c D A 8 Q 0 0 6 [(0, .ref h_t_), (1, .int x1), (3, .int x3), (4, .int l4_1), (5, .int l5_2)] [] [(h_t_, .inr (9, [.int v_segmentCount, .int v_wordCount, .ref h_order, .ref h_durations, .ref h_pauses, .ref h_sizes, .ref h_words, .ref h_names])), (h_order, .inl (cI, 32, .inl v_order)), (h_sizes, .inl (cI, 32, .inl v_sizes)), (h_words, .inl (cI, 256, .inl v_words))] := by
    intro e_14 hx0 N
    induction N with
    | zero => intro l4_1 l5_2 hw; exact absurd hw (wh_0 _ _ _)
    | succ N ih =>
      intro l4_1 l5_2 hw
      have hF : S_X9_countIn_6 x1 x3 v_order v_sizes v_words (wh (fun k q => S_X9_countIn_6 x1 x3 v_order v_sizes v_words k q.1 q.2) N) l4_1 l5_2 = some e_14 := hw
      unfold S_X9_countIn_6 at hF
      refine gq_iload hC 4 dX9_countIn_6 rfl ?_
      refine gq_iload_n hC 2 dX9_countIn_8 rfl rfl ?_
      refine gq_icmp_gt hC 57 dX9_countIn_9 (by decide) (fun hc_13 => ?_) (fun hc_13 => ?_)
      · have hF := (if_pos hc_13).symm.trans hF
        refine gq_sub [(4, .int l4_1)] [3] rfl ?_
        cases hF
        exact hx0
      · have hF := (if_neg hc_13).symm.trans hF
        refine gq_aload_n hC 0 dX9_countIn_12 rfl rfl ?_
        refine gq_iload hC 4 dX9_countIn_13 rfl ?_
        obtain ⟨r_3, hc_, hF⟩ := ob1_e hF
        refine gq_callVi hC [0, 1, 2] [(h_t_, .inr (9, [.int v_segmentCount, .int v_wordCount, .ref h_order, .ref h_durations, .ref h_pauses, .ref h_sizes, .ref h_words, .ref h_names])), (h_order, .inl (cI, 32, .inl v_order)), (h_sizes, .inl (cI, 32, .inl v_sizes)), (h_words, .inl (cI, 256, .inl v_words))] [.int l5_2] [] (k_X9_sizeOf l D cI cJ cZ cO z h_t_ h_order h_sizes h_durations h_pauses h_words h_names l5_2 v_segmentCount v_wordCount v_order v_sizes r_3 hc_) gX9_countIn_X9_sizeOf rfl ⟨rfl, rfl⟩ hy_X9_sizeOf ⟨Nat.le_of_ble_eq_true rfl, Nat.le_of_ble_eq_true rfl⟩ rfl rfl rfl (q0 := 0) rfl rfl rfl (Nat.le_of_ble_eq_true rfl) rfl dX9_countIn_15 rfl rfl ?_
        refine gq_istore hC [(6, .int r_3), (0, .ref h_t_), (1, .int x1), (3, .int x3), (4, .int l4_1), (5, .int l5_2)] dX9_countIn_18 (by decide) rfl ?_
        refine gq_iconst hC (0 : Int32) dX9_countIn_20 (by decide) ?_
        refine gq_istore hC [(7, .int (0 : Int32)), (6, .int r_3), (0, .ref h_t_), (1, .int x1), (3, .int x3), (4, .int l4_1), (5, .int l5_2)] dX9_countIn_21 (by decide) rfl ?_
        have lp23 : ∀ (l5_5 : Int32) (l6_6 : Int32), ∀ (e_11 : Int32), Gx p l e (rmD 1) s m args below meth c D A 8 Q 0 0 51 [(0, .ref h_t_), (1, .int x1), (3, .int x3), (4, .int e_11), (5, .int l5_5)] [] [(h_t_, .inr (9, [.int v_segmentCount, .int v_wordCount, .ref h_order, .ref h_durations, .ref h_pauses, .ref h_sizes, .ref h_words, .ref h_names])), (h_order, .inl (cI, 32, .inl v_order)), (h_sizes, .inl (cI, 32, .inl v_sizes)), (h_words, .inl (cI, 256, .inl v_words))] → ∀ (N : Nat) (l4_4 : Int32) (l7_7 : Int32), wh (fun k q => S_X9_countIn_23 x1 x3 l5_5 l6_6 v_order v_sizes v_words k q.1 q.2) N (l4_4, l7_7) = some e_11 → Gx p l e (rmD 1) s m args below meth c D A 8 Q 0 0 23 [(0, .ref h_t_), (1, .int x1), (3, .int x3), (4, .int l4_4), (5, .int l5_5), (6, .int l6_6), (7, .int l7_7)] [] [(h_t_, .inr (9, [.int v_segmentCount, .int v_wordCount, .ref h_order, .ref h_durations, .ref h_pauses, .ref h_sizes, .ref h_words, .ref h_names])), (h_order, .inl (cI, 32, .inl v_order)), (h_sizes, .inl (cI, 32, .inl v_sizes)), (h_words, .inl (cI, 256, .inl v_words))] := by
          intro l5_5 l6_6 e_11 hx0 N
          induction N with
          | zero => intro l4_4 l7_7 hw; exact absurd hw (wh_0 _ _ _)
          | succ N ih =>
            intro l4_4 l7_7 hw
            have hF : S_X9_countIn_23 x1 x3 l5_5 l6_6 v_order v_sizes v_words (wh (fun k q => S_X9_countIn_23 x1 x3 l5_5 l6_6 v_order v_sizes v_words k q.1 q.2) N) l4_4 l7_7 = some e_11 := hw
            unfold S_X9_countIn_23 at hF
            refine gq_iload hC 6 dX9_countIn_23 rfl ?_
            refine gq_iload hC 5 dX9_countIn_25 rfl ?_
            refine gq_icmp_ge hC 51 dX9_countIn_27 (by decide) (fun hc_10 => ?_) (fun hc_10 => ?_)
            · have hF := (if_pos hc_10).symm.trans hF
              refine gq_sub [(0, .ref h_t_), (1, .int x1), (3, .int x3), (4, .int l4_4), (5, .int l5_5)] [0, 1, 2, 3, 4] rfl ?_
              cases hF
              exact hx0
            · have hF := (if_neg hc_10).symm.trans hF
              refine gq_aload_n hC 0 dX9_countIn_30 rfl rfl ?_
              refine gq_iload hC 4 dX9_countIn_31 rfl ?_
              refine gq_iload hC 6 dX9_countIn_33 rfl ?_
              obtain ⟨r_8, hc_, hF⟩ := ob1_e hF
              refine gq_callVi hC [0, 1, 3] [(h_t_, .inr (9, [.int v_segmentCount, .int v_wordCount, .ref h_order, .ref h_durations, .ref h_pauses, .ref h_sizes, .ref h_words, .ref h_names])), (h_order, .inl (cI, 32, .inl v_order)), (h_sizes, .inl (cI, 32, .inl v_sizes)), (h_words, .inl (cI, 256, .inl v_words))] [.int l5_5, .int l7_7] [] (k_X9_wordAt l D cI cJ cZ cO z h_t_ h_order h_words h_durations h_pauses h_sizes h_names l5_5 l7_7 v_segmentCount v_wordCount v_order v_words r_8 hc_) gX9_countIn_X9_wordAt rfl ⟨rfl, rfl⟩ hy_X9_wordAt ⟨Nat.le_of_ble_eq_true rfl, Nat.le_of_ble_eq_true rfl⟩ rfl rfl rfl (q0 := 0) rfl rfl rfl (Nat.le_of_ble_eq_true rfl) rfl dX9_countIn_35 rfl rfl ?_
              refine gq_iload_n hC 1 dX9_countIn_38 rfl rfl ?_
              refine gq_icmp_ne hC 45 dX9_countIn_39 (by decide) (fun hc_9 => ?_) (fun hc_9 => ?_)
              · have hF := (if_neg hc_9).symm.trans hF
                refine gq_iinc hC 6 (l7_7 + (1 : Int32)) [(7, .int (l7_7 + (1 : Int32))), (0, .ref h_t_), (1, .int x1), (3, .int x3), (4, .int l4_4), (5, .int l5_5), (6, .int l6_6)] dX9_countIn_45 rfl rfl (by decide) rfl ?_
                refine gq_goto hC 23 dX9_countIn_48 (by decide) ?_
                refine gq_sub [(0, .ref h_t_), (1, .int x1), (3, .int x3), (4, .int l4_4), (5, .int l5_5), (6, .int l6_6), (7, .int (l7_7 + (1 : Int32)))] [1, 2, 3, 4, 5, 6, 0] rfl ?_
                exact ih l4_4 (l7_7 + (1 : Int32)) hF
              · have hF := (if_pos hc_9).symm.trans hF
                refine gq_iinc hC 3 (l4_4 + (1 : Int32)) [(4, .int (l4_4 + (1 : Int32))), (0, .ref h_t_), (1, .int x1), (3, .int x3), (5, .int l5_5), (6, .int l6_6), (7, .int l7_7)] dX9_countIn_42 rfl rfl (by decide) rfl ?_
                refine gq_iinc hC 6 (l7_7 + (1 : Int32)) [(7, .int (l7_7 + (1 : Int32))), (4, .int (l4_4 + (1 : Int32))), (0, .ref h_t_), (1, .int x1), (3, .int x3), (5, .int l5_5), (6, .int l6_6)] dX9_countIn_45 rfl rfl (by decide) rfl ?_
                refine gq_goto hC 23 dX9_countIn_48 (by decide) ?_
                refine gq_sub [(0, .ref h_t_), (1, .int x1), (3, .int x3), (4, .int (l4_4 + (1 : Int32))), (5, .int l5_5), (6, .int l6_6), (7, .int (l7_7 + (1 : Int32)))] [2, 3, 4, 1, 5, 6, 0] rfl ?_
                exact ih (l4_4 + (1 : Int32)) (l7_7 + (1 : Int32)) hF
        refine gq_sub [(0, .ref h_t_), (1, .int x1), (3, .int x3), (4, .int l4_1), (5, .int l5_2), (6, .int r_3), (7, .int (0 : Int32))] [2, 3, 4, 5, 6, 1, 0] rfl ?_
        obtain ⟨e_12, hw_, hF⟩ := ob1_e hF
        refine lp23 l5_2 r_3 e_12 ?_ wF l4_1 (0 : Int32) hw_
        refine gq_iinc hC 4 (l5_2 + (1 : Int32)) [(5, .int (l5_2 + (1 : Int32))), (0, .ref h_t_), (1, .int x1), (3, .int x3), (4, .int e_12)] dX9_countIn_51 rfl rfl (by decide) rfl ?_
        refine gq_goto hC 6 dX9_countIn_54 (by decide) ?_
        refine gq_sub [(0, .ref h_t_), (1, .int x1), (3, .int x3), (4, .int e_12), (5, .int (l5_2 + (1 : Int32)))] [1, 2, 3, 4, 0] rfl ?_
        exact ih e_12 (l5_2 + (1 : Int32)) hF
  refine gq_sub [(0, .ref h_t_), (1, .int x1), (3, .int x3), (4, .int (0 : Int32)), (5, .int x2)] [2, 3, 5, 1, 0] rfl ?_
  obtain ⟨e_15, hw_, hF⟩ := ob1_e hF
  refine lp6  e_15 ?_ wF (0 : Int32) x2 hw_
  refine gq_iload hC 0 dX9_countIn_57 rfl ?_
  cases hF
  rw [hQ]
  exact gq_iret hC rfl dX9_countIn_59
theorem hy_X9_tally : yX9_tally.cls = RX9 ∧ yX9_tally.cls ≠ "java/lang/invoke/MethodHandle" ∧ yX9_tally.cls ≠ "java/lang/invoke/VarHandle" ∧ (parseMethodDescriptor yX9_tally.desc).map (fun d => d.parameters.length) = some 4 := by decide +kernel
set_option maxRecDepth 20000 in
set_option maxHeartbeats 4000000 in
theorem k_X9_tally (l : Launch) (D : va_G) (cI cJ cZ cO : ClassId) (z : Nat → Nat) (n3 : Nat)  (h_t_ : Nat) (h_order : Nat) (h_sizes : Nat) (h_words : Nat) (h_p3 : Nat) (h_durations : Nat) (h_pauses : Nat) (h_names : Nat) (x1 : Int32) (x2 : Int32) (x4 : Int32) (v_segmentCount : Int32) (v_wordCount : Int32) (v_order : Nat → Int32) (v_sizes : Nat → Int32) (v_words : Nat → Int32) (v_p3 : Nat → Int32) (w_p3 : Nat → Int32) (hF : F_X9_tally n3 x1 x2 x4 v_order v_sizes v_words v_p3 = some w_p3) : Mv l yX9_tally wsX9_tally (rmD 1) D (gq_ty cI cJ cZ cO) z [.ref h_t_, .int x1, .int x2, .ref h_p3, .int x4] [(h_t_, .inr (9, [.int v_segmentCount, .int v_wordCount, .ref h_order, .ref h_durations, .ref h_pauses, .ref h_sizes, .ref h_words, .ref h_names])), (h_order, .inl (cI, 32, .inl v_order)), (h_sizes, .inl (cI, 32, .inl v_sizes)), (h_words, .inl (cI, 256, .inl v_words)), (h_p3, .inl (cI, n3, .inl v_p3))] [(h_t_, .inr (9, [.int v_segmentCount, .int v_wordCount, .ref h_order, .ref h_durations, .ref h_pauses, .ref h_sizes, .ref h_words, .ref h_names])), (h_order, .inl (cI, 32, .inl v_order)), (h_sizes, .inl (cI, 32, .inl v_sizes)), (h_words, .inl (cI, 256, .inl v_words)), (h_p3, .inl (cI, n3, .inl w_p3))] 0 0 := by
  refine Mv.of (cc := cX9_tally) (maxL := 8) (by decide) rfl (Nat.le_of_ble_eq_true rfl) ⟨Nat.le_refl 0, Nat.le_refl 0⟩ ?_
  intro p e s m args below meth c A hC ha
  obtain ⟨Q, hQ⟩ : ∃ Q, Q = gq_Qv below D A args s [(h_t_, .inr (9, [.int v_segmentCount, .int v_wordCount, .ref h_order, .ref h_durations, .ref h_pauses, .ref h_sizes, .ref h_words, .ref h_names])), (h_order, .inl (cI, 32, .inl v_order)), (h_sizes, .inl (cI, 32, .inl v_sizes)), (h_words, .inl (cI, 256, .inl v_words)), (h_p3, .inl (cI, n3, .inl w_p3))] 0 0 := ⟨_, rfl⟩
  rw [← hQ]
  refine gq_loc [(0, .ref h_t_), (1, .int x1), (2, .int x2), (3, .ref h_p3), (4, .int x4)] rfl ?_
  unfold F_X9_tally at hF
  refine gq_iload_n hC 1 dX9_tally_0 rfl rfl ?_
  refine gq_istore hC [(5, .int x1), (0, .ref h_t_), (1, .int x1), (2, .int x2), (3, .ref h_p3), (4, .int x4)] dX9_tally_1 (by decide) rfl ?_
  have lp3 : ∀ (e_15 : (Nat → Int32)), Gx p l e (rmD 1) s m args below meth c D A 8 Q 0 0 56 [] [] [(h_t_, .inr (9, [.int v_segmentCount, .int v_wordCount, .ref h_order, .ref h_durations, .ref h_pauses, .ref h_sizes, .ref h_words, .ref h_names])), (h_order, .inl (cI, 32, .inl v_order)), (h_sizes, .inl (cI, 32, .inl v_sizes)), (h_words, .inl (cI, 256, .inl v_words)), (h_p3, .inl (cI, n3, .inl e_15))] → ∀ (N : Nat) (l5_1 : Int32) (v_p3_2 : Nat → Int32), wh (fun k q => S_X9_tally_3 n3 x2 x4 v_order v_sizes v_words k q.1 q.2) N (l5_1, v_p3_2) = some e_15 → Gx p l e (rmD 1) s m args below meth c D A 8 Q 0 0 3 [(0, .ref h_t_), (2, .int x2), (3, .ref h_p3), (4, .int x4), (5, .int l5_1)] [] [(h_t_, .inr (9, [.int v_segmentCount, .int v_wordCount, .ref h_order, .ref h_durations, .ref h_pauses, .ref h_sizes, .ref h_words, .ref h_names])), (h_order, .inl (cI, 32, .inl v_order)), (h_sizes, .inl (cI, 32, .inl v_sizes)), (h_words, .inl (cI, 256, .inl v_words)), (h_p3, .inl (cI, n3, .inl v_p3_2))] := by
    intro e_15 hx0 N
    induction N with
    | zero => intro l5_1 v_p3_2 hw; exact absurd hw (wh_0 _ _ _)
    | succ N ih =>
      intro l5_1 v_p3_2 hw
      have hF : S_X9_tally_3 n3 x2 x4 v_order v_sizes v_words (wh (fun k q => S_X9_tally_3 n3 x2 x4 v_order v_sizes v_words k q.1 q.2) N) l5_1 v_p3_2 = some e_15 := hw
      unfold S_X9_tally_3 at hF
      refine gq_iload hC 4 dX9_tally_3 rfl ?_
      refine gq_iload_n hC 1 dX9_tally_5 rfl rfl ?_
      refine gq_icmp_gt hC 56 dX9_tally_6 (by decide) (fun hc_14 => ?_) (fun hc_14 => ?_)
      · have hF := (if_pos hc_14).symm.trans hF
        refine gq_sub [] [] rfl ?_
        cases hF
        exact hx0
      · have hF := (if_neg hc_14).symm.trans hF
        refine gq_aload_n hC 0 dX9_tally_9 rfl rfl ?_
        refine gq_iload hC 4 dX9_tally_10 rfl ?_
        obtain ⟨r_3, hc_, hF⟩ := ob1_e hF
        refine gq_callVi hC [0, 1, 2] [(h_t_, .inr (9, [.int v_segmentCount, .int v_wordCount, .ref h_order, .ref h_durations, .ref h_pauses, .ref h_sizes, .ref h_words, .ref h_names])), (h_order, .inl (cI, 32, .inl v_order)), (h_sizes, .inl (cI, 32, .inl v_sizes)), (h_words, .inl (cI, 256, .inl v_words)), (h_p3, .inl (cI, n3, .inl v_p3_2))] [.int l5_1] [] (k_X9_sizeOf l D cI cJ cZ cO z h_t_ h_order h_sizes h_durations h_pauses h_words h_names l5_1 v_segmentCount v_wordCount v_order v_sizes r_3 hc_) gX9_tally_X9_sizeOf rfl ⟨rfl, rfl⟩ hy_X9_sizeOf ⟨Nat.le_of_ble_eq_true rfl, Nat.le_of_ble_eq_true rfl⟩ rfl rfl rfl (q0 := 0) rfl rfl rfl (Nat.le_of_ble_eq_true rfl) rfl dX9_tally_12 rfl rfl ?_
        refine gq_istore hC [(6, .int r_3), (0, .ref h_t_), (2, .int x2), (3, .ref h_p3), (4, .int x4), (5, .int l5_1)] dX9_tally_15 (by decide) rfl ?_
        refine gq_iconst hC (0 : Int32) dX9_tally_17 (by decide) ?_
        refine gq_istore hC [(7, .int (0 : Int32)), (6, .int r_3), (0, .ref h_t_), (2, .int x2), (3, .ref h_p3), (4, .int x4), (5, .int l5_1)] dX9_tally_18 (by decide) rfl ?_
        have lp20 : ∀ (l5_4 : Int32) (l6_5 : Int32), ∀ (e_12 : (Nat → Int32)), Gx p l e (rmD 1) s m args below meth c D A 8 Q 0 0 50 [(0, .ref h_t_), (2, .int x2), (3, .ref h_p3), (4, .int x4), (5, .int l5_4)] [] [(h_t_, .inr (9, [.int v_segmentCount, .int v_wordCount, .ref h_order, .ref h_durations, .ref h_pauses, .ref h_sizes, .ref h_words, .ref h_names])), (h_order, .inl (cI, 32, .inl v_order)), (h_sizes, .inl (cI, 32, .inl v_sizes)), (h_words, .inl (cI, 256, .inl v_words)), (h_p3, .inl (cI, n3, .inl e_12))] → ∀ (N : Nat) (l7_6 : Int32) (v_p3_7 : Nat → Int32), wh (fun k q => S_X9_tally_20 n3 x2 x4 l5_4 l6_5 v_order v_sizes v_words k q.1 q.2) N (l7_6, v_p3_7) = some e_12 → Gx p l e (rmD 1) s m args below meth c D A 8 Q 0 0 20 [(0, .ref h_t_), (2, .int x2), (3, .ref h_p3), (4, .int x4), (5, .int l5_4), (6, .int l6_5), (7, .int l7_6)] [] [(h_t_, .inr (9, [.int v_segmentCount, .int v_wordCount, .ref h_order, .ref h_durations, .ref h_pauses, .ref h_sizes, .ref h_words, .ref h_names])), (h_order, .inl (cI, 32, .inl v_order)), (h_sizes, .inl (cI, 32, .inl v_sizes)), (h_words, .inl (cI, 256, .inl v_words)), (h_p3, .inl (cI, n3, .inl v_p3_7))] := by
          intro l5_4 l6_5 e_12 hx0 N
          induction N with
          | zero => intro l7_6 v_p3_7 hw; exact absurd hw (wh_0 _ _ _)
          | succ N ih =>
            intro l7_6 v_p3_7 hw
            have hF : S_X9_tally_20 n3 x2 x4 l5_4 l6_5 v_order v_sizes v_words (wh (fun k q => S_X9_tally_20 n3 x2 x4 l5_4 l6_5 v_order v_sizes v_words k q.1 q.2) N) l7_6 v_p3_7 = some e_12 := hw
            unfold S_X9_tally_20 at hF
            refine gq_iload hC 6 dX9_tally_20 rfl ?_
            refine gq_iload hC 5 dX9_tally_22 rfl ?_
            refine gq_icmp_ge hC 50 dX9_tally_24 (by decide) (fun hc_11 => ?_) (fun hc_11 => ?_)
            · have hF := (if_pos hc_11).symm.trans hF
              refine gq_sub [(0, .ref h_t_), (2, .int x2), (3, .ref h_p3), (4, .int x4), (5, .int l5_4)] [0, 1, 2, 3, 4] rfl ?_
              cases hF
              exact hx0
            · have hF := (if_neg hc_11).symm.trans hF
              refine gq_aload_n hC 2 dX9_tally_27 rfl rfl ?_
              refine gq_iload hC 3 dX9_tally_28 rfl ?_
              refine gq_aload_n hC 0 dX9_tally_30 rfl rfl ?_
              refine gq_iload hC 4 dX9_tally_31 rfl ?_
              refine gq_iload hC 6 dX9_tally_33 rfl ?_
              obtain ⟨r_8, hc_, hF⟩ := ob1_e hF
              refine gq_callVi hC [0, 1, 3] [(h_t_, .inr (9, [.int v_segmentCount, .int v_wordCount, .ref h_order, .ref h_durations, .ref h_pauses, .ref h_sizes, .ref h_words, .ref h_names])), (h_order, .inl (cI, 32, .inl v_order)), (h_sizes, .inl (cI, 32, .inl v_sizes)), (h_words, .inl (cI, 256, .inl v_words)), (h_p3, .inl (cI, n3, .inl v_p3_7))] [.int l5_4, .int l7_6] [.int x4, .ref h_p3] (k_X9_wordAt l D cI cJ cZ cO z h_t_ h_order h_words h_durations h_pauses h_sizes h_names l5_4 l7_6 v_segmentCount v_wordCount v_order v_words r_8 hc_) gX9_tally_X9_wordAt rfl ⟨rfl, rfl⟩ hy_X9_wordAt ⟨Nat.le_of_ble_eq_true rfl, Nat.le_of_ble_eq_true rfl⟩ rfl rfl rfl (q0 := 0) rfl rfl rfl (Nat.le_of_ble_eq_true rfl) rfl dX9_tally_35 rfl rfl ?_
              refine gq_iadd hC dX9_tally_38 ?_
              refine gq_dup2 hC dX9_tally_39 rfl rfl ?_
              obtain ⟨hi_9, hF⟩ := gi_e hF
              refine gq_iald hC 4 0 rfl rfl hi_9 dX9_tally_40 ?_
              refine gq_iconst hC (1 : Int32) dX9_tally_41 (by decide) ?_
              refine gq_iadd hC dX9_tally_42 ?_
              obtain ⟨hi_10, hF⟩ := gi_e hF
              refine gq_iast hC 4 0 [(h_t_, .inr (9, [.int v_segmentCount, .int v_wordCount, .ref h_order, .ref h_durations, .ref h_pauses, .ref h_sizes, .ref h_words, .ref h_names])), (h_order, .inl (cI, 32, .inl v_order)), (h_sizes, .inl (cI, 32, .inl v_sizes)), (h_words, .inl (cI, 256, .inl v_words)), (h_p3, .inl (cI, n3, .inl (upd v_p3_7 (x4 + r_8).toNatClampNeg ((v_p3_7 (x4 + r_8).toNatClampNeg) + (1 : Int32)))))] rfl rfl hi_10 dX9_tally_43 rfl ?_
              refine gq_iinc hC 6 (l7_6 + (1 : Int32)) [(7, .int (l7_6 + (1 : Int32))), (0, .ref h_t_), (2, .int x2), (3, .ref h_p3), (4, .int x4), (5, .int l5_4), (6, .int l6_5)] dX9_tally_44 rfl rfl (by decide) rfl ?_
              refine gq_goto hC 20 dX9_tally_47 (by decide) ?_
              refine gq_sub [(0, .ref h_t_), (2, .int x2), (3, .ref h_p3), (4, .int x4), (5, .int l5_4), (6, .int l6_5), (7, .int (l7_6 + (1 : Int32)))] [1, 2, 3, 4, 5, 6, 0] rfl ?_
              exact ih (l7_6 + (1 : Int32)) (upd v_p3_7 (x4 + r_8).toNatClampNeg ((v_p3_7 (x4 + r_8).toNatClampNeg) + (1 : Int32))) hF
        refine gq_sub [(0, .ref h_t_), (2, .int x2), (3, .ref h_p3), (4, .int x4), (5, .int l5_1), (6, .int r_3), (7, .int (0 : Int32))] [2, 3, 4, 5, 6, 1, 0] rfl ?_
        obtain ⟨e_13, hw_, hF⟩ := ob1_e hF
        refine lp20 l5_1 r_3 e_13 ?_ wF (0 : Int32) v_p3_2 hw_
        refine gq_iinc hC 4 (l5_1 + (1 : Int32)) [(5, .int (l5_1 + (1 : Int32))), (0, .ref h_t_), (2, .int x2), (3, .ref h_p3), (4, .int x4)] dX9_tally_50 rfl rfl (by decide) rfl ?_
        refine gq_goto hC 3 dX9_tally_53 (by decide) ?_
        refine gq_sub [(0, .ref h_t_), (2, .int x2), (3, .ref h_p3), (4, .int x4), (5, .int (l5_1 + (1 : Int32)))] [1, 2, 3, 4, 0] rfl ?_
        exact ih (l5_1 + (1 : Int32)) e_13 hF
  refine gq_sub [(0, .ref h_t_), (2, .int x2), (3, .ref h_p3), (4, .int x4), (5, .int x1)] [1, 3, 4, 5, 0] rfl ?_
  obtain ⟨e_16, hw_, hF⟩ := ob1_e hF
  refine lp3  e_16 ?_ wF x1 v_p3 hw_
  cases hF
  rw [hQ]
  exact gq_vret hC dX9_tally_56
theorem hy_X7_copyFrom : yX7_copyFrom.cls = RX7 ∧ yX7_copyFrom.cls ≠ "java/lang/invoke/MethodHandle" ∧ yX7_copyFrom.cls ≠ "java/lang/invoke/VarHandle" ∧ (parseMethodDescriptor yX7_copyFrom.desc).map (fun d => d.parameters.length) = some 1 := by decide +kernel
set_option maxRecDepth 20000 in
set_option maxHeartbeats 4000000 in
theorem k_X7_copyFrom (l : Launch) (D : va_G) (cI cJ cZ cO : ClassId) (z : Nat → Nat)   (h_t_ : Nat) (h_wishes : Nat) (h_lengths : Nat) (h_reaches : Nat) (h_p1 : Nat) (h_p1_wishes : Nat) (h_p1_lengths : Nat) (h_p1_reaches : Nat)  (v_slotCount : Int32) (v_wishes : Nat → Int32) (v_lengths : Nat → Int32) (v_reaches : Nat → Int32) (v_p1_slotCount : Int32) (v_p1_wishes : Nat → Int32) (v_p1_lengths : Nat → Int32) (v_p1_reaches : Nat → Int32) (w_slotCount : Int32) (w_wishes : Nat → Int32) (w_lengths : Nat → Int32) (w_reaches : Nat → Int32) (hF : F_X7_copyFrom v_slotCount v_wishes v_lengths v_reaches v_p1_slotCount v_p1_wishes v_p1_lengths v_p1_reaches = some (w_slotCount, w_wishes, w_lengths, w_reaches)) : Mv l yX7_copyFrom wsX7_copyFrom (rmD 1) D (gq_ty cI cJ cZ cO) z [.ref h_t_, .ref h_p1] [(h_t_, .inr (7, [.int v_slotCount, .ref h_wishes, .ref h_lengths, .ref h_reaches])), (h_wishes, .inl (cI, 5, .inl v_wishes)), (h_lengths, .inl (cI, 5, .inl v_lengths)), (h_reaches, .inl (cI, 5, .inl v_reaches)), (h_p1, .inr (7, [.int v_p1_slotCount, .ref h_p1_wishes, .ref h_p1_lengths, .ref h_p1_reaches])), (h_p1_wishes, .inl (cI, 5, .inl v_p1_wishes)), (h_p1_lengths, .inl (cI, 5, .inl v_p1_lengths)), (h_p1_reaches, .inl (cI, 5, .inl v_p1_reaches))] [(h_t_, .inr (7, [.int w_slotCount, .ref h_wishes, .ref h_lengths, .ref h_reaches])), (h_wishes, .inl (cI, 5, .inl w_wishes)), (h_lengths, .inl (cI, 5, .inl w_lengths)), (h_reaches, .inl (cI, 5, .inl w_reaches)), (h_p1, .inr (7, [.int v_p1_slotCount, .ref h_p1_wishes, .ref h_p1_lengths, .ref h_p1_reaches])), (h_p1_wishes, .inl (cI, 5, .inl v_p1_wishes)), (h_p1_lengths, .inl (cI, 5, .inl v_p1_lengths)), (h_p1_reaches, .inl (cI, 5, .inl v_p1_reaches))] 0 0 := by
  refine Mv.of (cc := cX7_copyFrom) (maxL := 2) (by decide) rfl (Nat.le_of_ble_eq_true rfl) ⟨Nat.le_refl 0, Nat.le_refl 0⟩ ?_
  intro p e s m args below meth c A hC ha
  have hin_X7 : ∀ w ∈ wsX70, w ∈ wsX7_copyFrom := by decide +kernel
  have hw_9 : Cond.fieldLink RX7 9 (TX7 1).1 (TX7 1).2.1 (TX7 1).2.2.1 ∈ wsX7_copyFrom := by decide +kernel
  have hw_15 : Cond.fieldLink RX7 15 (TX7 2).1 (TX7 2).2.1 (TX7 2).2.2.1 ∈ wsX7_copyFrom := by decide +kernel
  have hw_18 : Cond.fieldLink RX7 18 (TX7 3).1 (TX7 3).2.1 (TX7 3).2.2.1 ∈ wsX7_copyFrom := by decide +kernel
  have hw_21 : Cond.fieldLink RX7 21 (TX7 0).1 (TX7 0).2.1 (TX7 0).2.2.1 ∈ wsX7_copyFrom := by decide +kernel
  obtain ⟨Q, hQ⟩ : ∃ Q, Q = gq_Qv below D A args s [(h_t_, .inr (7, [.int w_slotCount, .ref h_wishes, .ref h_lengths, .ref h_reaches])), (h_wishes, .inl (cI, 5, .inl w_wishes)), (h_lengths, .inl (cI, 5, .inl w_lengths)), (h_reaches, .inl (cI, 5, .inl w_reaches)), (h_p1, .inr (7, [.int v_p1_slotCount, .ref h_p1_wishes, .ref h_p1_lengths, .ref h_p1_reaches])), (h_p1_wishes, .inl (cI, 5, .inl v_p1_wishes)), (h_p1_lengths, .inl (cI, 5, .inl v_p1_lengths)), (h_p1_reaches, .inl (cI, 5, .inl v_p1_reaches))] 0 0 := ⟨_, rfl⟩
  rw [← hQ]
  refine gq_loc [(0, .ref h_t_), (1, .ref h_p1)] rfl ?_
  unfold F_X7_copyFrom at hF
  refine gq_aload_n hC 0 dX7_copyFrom_0 rfl rfl ?_
  refine gq_aload_n hC 1 dX7_copyFrom_1 rfl rfl ?_
  refine gq_get hC (kf := 0) 4 hin_X7 rfl rfl (by decide) hw_21 rfl dX7_copyFrom_2 ?_
  refine gq_put1 hC (kf := 0) 0 [(h_t_, .inr (7, [.int v_p1_slotCount, .ref h_wishes, .ref h_lengths, .ref h_reaches])), (h_wishes, .inl (cI, 5, .inl v_wishes)), (h_lengths, .inl (cI, 5, .inl v_lengths)), (h_reaches, .inl (cI, 5, .inl v_reaches)), (h_p1, .inr (7, [.int v_p1_slotCount, .ref h_p1_wishes, .ref h_p1_lengths, .ref h_p1_reaches])), (h_p1_wishes, .inl (cI, 5, .inl v_p1_wishes)), (h_p1_lengths, .inl (cI, 5, .inl v_p1_lengths)), (h_p1_reaches, .inl (cI, 5, .inl v_p1_reaches))] tyX7 tyX7_ok nmX7 hin_X7 rfl rfl (by decide) hw_21 rfl rfl rfl (Nat.le_of_ble_eq_true rfl) dX7_copyFrom_5 rfl ?_
  refine gq_aload_n hC 1 dX7_copyFrom_8 rfl rfl ?_
  refine gq_get hC (kf := 1) 4 hin_X7 rfl rfl (by decide) hw_9 rfl dX7_copyFrom_9 ?_
  refine gq_iconst hC (0 : Int32) dX7_copyFrom_12 (by decide) ?_
  refine gq_aload_n hC 0 dX7_copyFrom_13 rfl rfl ?_
  refine gq_get hC (kf := 1) 0 hin_X7 rfl rfl (by decide) hw_9 rfl dX7_copyFrom_14 ?_
  refine gq_iconst hC (0 : Int32) dX7_copyFrom_17 (by decide) ?_
  refine gq_iconst hC (5 : Int32) dX7_copyFrom_18 (by decide) ?_
  refine gq_copyi hC 5 1 0 [(h_t_, .inr (7, [.int v_p1_slotCount, .ref h_wishes, .ref h_lengths, .ref h_reaches])), (h_wishes, .inl (cI, 5, .inl (va_cpy v_p1_wishes v_wishes (0 : Int32).toNatClampNeg (0 : Int32).toNatClampNeg (5 : Int32).toNatClampNeg))), (h_lengths, .inl (cI, 5, .inl v_lengths)), (h_reaches, .inl (cI, 5, .inl v_reaches)), (h_p1, .inr (7, [.int v_p1_slotCount, .ref h_p1_wishes, .ref h_p1_lengths, .ref h_p1_reaches])), (h_p1_wishes, .inl (cI, 5, .inl v_p1_wishes)), (h_p1_lengths, .inl (cI, 5, .inl v_p1_lengths)), (h_p1_reaches, .inl (cI, 5, .inl v_p1_reaches))] ⟨by decide +kernel, by decide +kernel, by decide +kernel, by decide +kernel⟩ rfl rfl rfl (by decide) (by decide) (by decide) (by decide) (by decide) ⟨Nat.le_of_ble_eq_true rfl, by decide⟩ dX7_copyFrom_19 rfl ?_
  refine gq_aload_n hC 1 dX7_copyFrom_22 rfl rfl ?_
  refine gq_get hC (kf := 2) 4 hin_X7 rfl rfl (by decide) hw_15 rfl dX7_copyFrom_23 ?_
  refine gq_iconst hC (0 : Int32) dX7_copyFrom_26 (by decide) ?_
  refine gq_aload_n hC 0 dX7_copyFrom_27 rfl rfl ?_
  refine gq_get hC (kf := 2) 0 hin_X7 rfl rfl (by decide) hw_15 rfl dX7_copyFrom_28 ?_
  refine gq_iconst hC (0 : Int32) dX7_copyFrom_31 (by decide) ?_
  refine gq_iconst hC (5 : Int32) dX7_copyFrom_32 (by decide) ?_
  refine gq_copyi hC 6 2 0 [(h_t_, .inr (7, [.int v_p1_slotCount, .ref h_wishes, .ref h_lengths, .ref h_reaches])), (h_wishes, .inl (cI, 5, .inl (va_cpy v_p1_wishes v_wishes (0 : Int32).toNatClampNeg (0 : Int32).toNatClampNeg (5 : Int32).toNatClampNeg))), (h_lengths, .inl (cI, 5, .inl (va_cpy v_p1_lengths v_lengths (0 : Int32).toNatClampNeg (0 : Int32).toNatClampNeg (5 : Int32).toNatClampNeg))), (h_reaches, .inl (cI, 5, .inl v_reaches)), (h_p1, .inr (7, [.int v_p1_slotCount, .ref h_p1_wishes, .ref h_p1_lengths, .ref h_p1_reaches])), (h_p1_wishes, .inl (cI, 5, .inl v_p1_wishes)), (h_p1_lengths, .inl (cI, 5, .inl v_p1_lengths)), (h_p1_reaches, .inl (cI, 5, .inl v_p1_reaches))] ⟨by decide +kernel, by decide +kernel, by decide +kernel, by decide +kernel⟩ rfl rfl rfl (by decide) (by decide) (by decide) (by decide) (by decide) ⟨Nat.le_of_ble_eq_true rfl, by decide⟩ dX7_copyFrom_33 rfl ?_
  refine gq_aload_n hC 1 dX7_copyFrom_36 rfl rfl ?_
  refine gq_get hC (kf := 3) 4 hin_X7 rfl rfl (by decide) hw_18 rfl dX7_copyFrom_37 ?_
  refine gq_iconst hC (0 : Int32) dX7_copyFrom_40 (by decide) ?_
  refine gq_aload_n hC 0 dX7_copyFrom_41 rfl rfl ?_
  refine gq_get hC (kf := 3) 0 hin_X7 rfl rfl (by decide) hw_18 rfl dX7_copyFrom_42 ?_
  refine gq_iconst hC (0 : Int32) dX7_copyFrom_45 (by decide) ?_
  refine gq_iconst hC (5 : Int32) dX7_copyFrom_46 (by decide) ?_
  refine gq_copyi hC 7 3 0 [(h_t_, .inr (7, [.int v_p1_slotCount, .ref h_wishes, .ref h_lengths, .ref h_reaches])), (h_wishes, .inl (cI, 5, .inl (va_cpy v_p1_wishes v_wishes (0 : Int32).toNatClampNeg (0 : Int32).toNatClampNeg (5 : Int32).toNatClampNeg))), (h_lengths, .inl (cI, 5, .inl (va_cpy v_p1_lengths v_lengths (0 : Int32).toNatClampNeg (0 : Int32).toNatClampNeg (5 : Int32).toNatClampNeg))), (h_reaches, .inl (cI, 5, .inl (va_cpy v_p1_reaches v_reaches (0 : Int32).toNatClampNeg (0 : Int32).toNatClampNeg (5 : Int32).toNatClampNeg))), (h_p1, .inr (7, [.int v_p1_slotCount, .ref h_p1_wishes, .ref h_p1_lengths, .ref h_p1_reaches])), (h_p1_wishes, .inl (cI, 5, .inl v_p1_wishes)), (h_p1_lengths, .inl (cI, 5, .inl v_p1_lengths)), (h_p1_reaches, .inl (cI, 5, .inl v_p1_reaches))] ⟨by decide +kernel, by decide +kernel, by decide +kernel, by decide +kernel⟩ rfl rfl rfl (by decide) (by decide) (by decide) (by decide) (by decide) ⟨Nat.le_of_ble_eq_true rfl, by decide⟩ dX7_copyFrom_47 rfl ?_
  cases hF
  rw [hQ]
  exact gq_vret hC dX7_copyFrom_50
theorem hy_X7_take : yX7_take.cls = RX7 ∧ yX7_take.cls ≠ "java/lang/invoke/MethodHandle" ∧ yX7_take.cls ≠ "java/lang/invoke/VarHandle" ∧ (parseMethodDescriptor yX7_take.desc).map (fun d => d.parameters.length) = some 2 := by decide +kernel
set_option maxRecDepth 20000 in
set_option maxHeartbeats 4000000 in
theorem k_X7_take (l : Launch) (D : va_G) (cI cJ cZ cO : ClassId) (z : Nat → Nat)   (h_t_ : Nat) (h_wishes : Nat) (h_lengths : Nat) (h_reaches : Nat) (x1 : Int32) (x2 : Int32) (v_slotCount : Int32) (v_wishes : Nat → Int32) (v_lengths : Nat → Int32) (v_reaches : Nat → Int32) (w_wishes : Nat → Int32) (w_lengths : Nat → Int32) (w_reaches : Nat → Int32) (hF : F_X7_take x1 x2 v_wishes v_lengths v_reaches = some (w_wishes, w_lengths, w_reaches)) : Mv l yX7_take wsX7_take (rmD 0) D (gq_ty cI cJ cZ cO) z [.ref h_t_, .int x1, .int x2] [(h_t_, .inr (7, [.int v_slotCount, .ref h_wishes, .ref h_lengths, .ref h_reaches])), (h_wishes, .inl (cI, 5, .inl v_wishes)), (h_lengths, .inl (cI, 5, .inl v_lengths)), (h_reaches, .inl (cI, 5, .inl v_reaches))] [(h_t_, .inr (7, [.int v_slotCount, .ref h_wishes, .ref h_lengths, .ref h_reaches])), (h_wishes, .inl (cI, 5, .inl w_wishes)), (h_lengths, .inl (cI, 5, .inl w_lengths)), (h_reaches, .inl (cI, 5, .inl w_reaches))] 0 0 := by
  refine Mv.of (cc := cX7_take) (maxL := 3) (by decide) rfl (Nat.le_of_ble_eq_true rfl) ⟨Nat.le_refl 0, Nat.le_refl 0⟩ ?_
  intro p e s m args below meth c A hC ha
  have hin_X7 : ∀ w ∈ wsX70, w ∈ wsX7_take := by decide +kernel
  have hw_9 : Cond.fieldLink RX7 9 (TX7 1).1 (TX7 1).2.1 (TX7 1).2.2.1 ∈ wsX7_take := by decide +kernel
  have hw_15 : Cond.fieldLink RX7 15 (TX7 2).1 (TX7 2).2.1 (TX7 2).2.2.1 ∈ wsX7_take := by decide +kernel
  have hw_18 : Cond.fieldLink RX7 18 (TX7 3).1 (TX7 3).2.1 (TX7 3).2.2.1 ∈ wsX7_take := by decide +kernel
  obtain ⟨Q, hQ⟩ : ∃ Q, Q = gq_Qv below D A args s [(h_t_, .inr (7, [.int v_slotCount, .ref h_wishes, .ref h_lengths, .ref h_reaches])), (h_wishes, .inl (cI, 5, .inl w_wishes)), (h_lengths, .inl (cI, 5, .inl w_lengths)), (h_reaches, .inl (cI, 5, .inl w_reaches))] 0 0 := ⟨_, rfl⟩
  rw [← hQ]
  refine gq_loc [(0, .ref h_t_), (1, .int x1), (2, .int x2)] rfl ?_
  unfold F_X7_take at hF
  refine gq_aload_n hC 0 dX7_take_0 rfl rfl ?_
  refine gq_get hC (kf := 1) 0 hin_X7 rfl rfl (by decide) hw_9 rfl dX7_take_1 ?_
  refine gq_iload_n hC 1 dX7_take_4 rfl rfl ?_
  refine gq_aload_n hC 0 dX7_take_5 rfl rfl ?_
  refine gq_get hC (kf := 1) 0 hin_X7 rfl rfl (by decide) hw_9 rfl dX7_take_6 ?_
  refine gq_iload_n hC 2 dX7_take_9 rfl rfl ?_
  obtain ⟨hi_1, hF⟩ := gi_e hF
  refine gq_iald hC 1 0 rfl rfl hi_1 dX7_take_10 ?_
  obtain ⟨hi_2, hF⟩ := gi_e hF
  refine gq_iast hC 1 0 [(h_t_, .inr (7, [.int v_slotCount, .ref h_wishes, .ref h_lengths, .ref h_reaches])), (h_wishes, .inl (cI, 5, .inl (upd v_wishes x1.toNatClampNeg (v_wishes x2.toNatClampNeg)))), (h_lengths, .inl (cI, 5, .inl v_lengths)), (h_reaches, .inl (cI, 5, .inl v_reaches))] rfl rfl hi_2 dX7_take_11 rfl ?_
  refine gq_aload_n hC 0 dX7_take_12 rfl rfl ?_
  refine gq_get hC (kf := 2) 0 hin_X7 rfl rfl (by decide) hw_15 rfl dX7_take_13 ?_
  refine gq_iload_n hC 1 dX7_take_16 rfl rfl ?_
  refine gq_aload_n hC 0 dX7_take_17 rfl rfl ?_
  refine gq_get hC (kf := 2) 0 hin_X7 rfl rfl (by decide) hw_15 rfl dX7_take_18 ?_
  refine gq_iload_n hC 2 dX7_take_21 rfl rfl ?_
  obtain ⟨hi_3, hF⟩ := gi_e hF
  refine gq_iald hC 2 0 rfl rfl hi_3 dX7_take_22 ?_
  obtain ⟨hi_4, hF⟩ := gi_e hF
  refine gq_iast hC 2 0 [(h_t_, .inr (7, [.int v_slotCount, .ref h_wishes, .ref h_lengths, .ref h_reaches])), (h_wishes, .inl (cI, 5, .inl (upd v_wishes x1.toNatClampNeg (v_wishes x2.toNatClampNeg)))), (h_lengths, .inl (cI, 5, .inl (upd v_lengths x1.toNatClampNeg (v_lengths x2.toNatClampNeg)))), (h_reaches, .inl (cI, 5, .inl v_reaches))] rfl rfl hi_4 dX7_take_23 rfl ?_
  refine gq_aload_n hC 0 dX7_take_24 rfl rfl ?_
  refine gq_get hC (kf := 3) 0 hin_X7 rfl rfl (by decide) hw_18 rfl dX7_take_25 ?_
  refine gq_iload_n hC 1 dX7_take_28 rfl rfl ?_
  refine gq_aload_n hC 0 dX7_take_29 rfl rfl ?_
  refine gq_get hC (kf := 3) 0 hin_X7 rfl rfl (by decide) hw_18 rfl dX7_take_30 ?_
  refine gq_iload_n hC 2 dX7_take_33 rfl rfl ?_
  obtain ⟨hi_5, hF⟩ := gi_e hF
  refine gq_iald hC 3 0 rfl rfl hi_5 dX7_take_34 ?_
  obtain ⟨hi_6, hF⟩ := gi_e hF
  refine gq_iast hC 3 0 [(h_t_, .inr (7, [.int v_slotCount, .ref h_wishes, .ref h_lengths, .ref h_reaches])), (h_wishes, .inl (cI, 5, .inl (upd v_wishes x1.toNatClampNeg (v_wishes x2.toNatClampNeg)))), (h_lengths, .inl (cI, 5, .inl (upd v_lengths x1.toNatClampNeg (v_lengths x2.toNatClampNeg)))), (h_reaches, .inl (cI, 5, .inl (upd v_reaches x1.toNatClampNeg (v_reaches x2.toNatClampNeg))))] rfl rfl hi_6 dX7_take_35 rfl ?_
  cases hF
  rw [hQ]
  exact gq_vret hC dX7_take_36
theorem hy_X7_insert : yX7_insert.cls = RX7 ∧ yX7_insert.cls ≠ "java/lang/invoke/MethodHandle" ∧ yX7_insert.cls ≠ "java/lang/invoke/VarHandle" ∧ (parseMethodDescriptor yX7_insert.desc).map (fun d => d.parameters.length) = some 3 := by decide +kernel
set_option maxRecDepth 20000 in
set_option maxHeartbeats 4000000 in
theorem k_X7_insert (l : Launch) (D : va_G) (cI cJ cZ cO : ClassId) (z : Nat → Nat)   (h_t_ : Nat) (h_wishes : Nat) (h_lengths : Nat) (h_reaches : Nat) (x1 : Int32) (x2 : Int32) (x3 : Int32) (v_slotCount : Int32) (v_wishes : Nat → Int32) (v_lengths : Nat → Int32) (v_reaches : Nat → Int32) (r_ : Int32) (w_slotCount : Int32) (w_wishes : Nat → Int32) (w_lengths : Nat → Int32) (w_reaches : Nat → Int32) (hF : F_X7_insert x1 x2 x3 v_slotCount v_wishes v_lengths v_reaches = some (r_, w_slotCount, w_wishes, w_lengths, w_reaches)) : Mi l yX7_insert wsX7_insert (rmD 1) D (gq_ty cI cJ cZ cO) z [.ref h_t_, .int x1, .int x2, .int x3] [(h_t_, .inr (7, [.int v_slotCount, .ref h_wishes, .ref h_lengths, .ref h_reaches])), (h_wishes, .inl (cI, 5, .inl v_wishes)), (h_lengths, .inl (cI, 5, .inl v_lengths)), (h_reaches, .inl (cI, 5, .inl v_reaches))] r_ [(h_t_, .inr (7, [.int w_slotCount, .ref h_wishes, .ref h_lengths, .ref h_reaches])), (h_wishes, .inl (cI, 5, .inl w_wishes)), (h_lengths, .inl (cI, 5, .inl w_lengths)), (h_reaches, .inl (cI, 5, .inl w_reaches))] 0 0 := by
  refine Mi.of (cc := cX7_insert) (maxL := 5) (by decide) rfl (Nat.le_of_ble_eq_true rfl) ⟨Nat.le_refl 0, Nat.le_refl 0⟩ ?_
  intro p e s m args below meth c A hC ha
  have hin_X7 : ∀ w ∈ wsX70, w ∈ wsX7_insert := by decide +kernel
  have hw_9 : Cond.fieldLink RX7 9 (TX7 1).1 (TX7 1).2.1 (TX7 1).2.2.1 ∈ wsX7_insert := by decide +kernel
  have hw_15 : Cond.fieldLink RX7 15 (TX7 2).1 (TX7 2).2.1 (TX7 2).2.2.1 ∈ wsX7_insert := by decide +kernel
  have hw_18 : Cond.fieldLink RX7 18 (TX7 3).1 (TX7 3).2.1 (TX7 3).2.2.1 ∈ wsX7_insert := by decide +kernel
  have hw_21 : Cond.fieldLink RX7 21 (TX7 0).1 (TX7 0).2.1 (TX7 0).2.2.1 ∈ wsX7_insert := by decide +kernel
  obtain ⟨Q, hQ⟩ : ∃ Q, Q = gq_Qi below D A args s r_ [(h_t_, .inr (7, [.int w_slotCount, .ref h_wishes, .ref h_lengths, .ref h_reaches])), (h_wishes, .inl (cI, 5, .inl w_wishes)), (h_lengths, .inl (cI, 5, .inl w_lengths)), (h_reaches, .inl (cI, 5, .inl w_reaches))] 0 0 := ⟨_, rfl⟩
  rw [← hQ]
  refine gq_loc [(0, .ref h_t_), (1, .int x1), (2, .int x2), (3, .int x3)] rfl ?_
  have jb50 : ∀ (l4_1 : Int32) (v_slotCount_2 : Int32) (v_wishes_3 : Nat → Int32) (v_lengths_4 : Nat → Int32) (v_reaches_5 : Nat → Int32), F_X7_insert_b50 x1 x2 x3 l4_1 v_slotCount_2 v_wishes_3 v_lengths_4 v_reaches_5 = some (r_, w_slotCount, w_wishes, w_lengths, w_reaches) → Gx p l e (rmD 1) s m args below meth c D A 5 Q 0 0 50 [(0, .ref h_t_), (1, .int x1), (2, .int x2), (3, .int x3), (4, .int l4_1)] [] [(h_t_, .inr (7, [.int v_slotCount_2, .ref h_wishes, .ref h_lengths, .ref h_reaches])), (h_wishes, .inl (cI, 5, .inl v_wishes_3)), (h_lengths, .inl (cI, 5, .inl v_lengths_4)), (h_reaches, .inl (cI, 5, .inl v_reaches_5))] := by
    intro l4_1 v_slotCount_2 v_wishes_3 v_lengths_4 v_reaches_5 hF
    unfold F_X7_insert_b50 at hF
    refine gq_aload_n hC 0 dX7_insert_50 rfl rfl ?_
    refine gq_get hC (kf := 1) 0 hin_X7 rfl rfl (by decide) hw_9 rfl dX7_insert_51 ?_
    refine gq_iload hC 4 dX7_insert_54 rfl ?_
    refine gq_iload_n hC 1 dX7_insert_56 rfl rfl ?_
    obtain ⟨hi_6, hF⟩ := gi_e hF
    refine gq_iast hC 1 0 [(h_t_, .inr (7, [.int v_slotCount_2, .ref h_wishes, .ref h_lengths, .ref h_reaches])), (h_wishes, .inl (cI, 5, .inl (upd v_wishes_3 l4_1.toNatClampNeg x1))), (h_lengths, .inl (cI, 5, .inl v_lengths_4)), (h_reaches, .inl (cI, 5, .inl v_reaches_5))] rfl rfl hi_6 dX7_insert_57 rfl ?_
    refine gq_aload_n hC 0 dX7_insert_58 rfl rfl ?_
    refine gq_get hC (kf := 2) 0 hin_X7 rfl rfl (by decide) hw_15 rfl dX7_insert_59 ?_
    refine gq_iload hC 4 dX7_insert_62 rfl ?_
    refine gq_iload_n hC 2 dX7_insert_64 rfl rfl ?_
    obtain ⟨hi_7, hF⟩ := gi_e hF
    refine gq_iast hC 2 0 [(h_t_, .inr (7, [.int v_slotCount_2, .ref h_wishes, .ref h_lengths, .ref h_reaches])), (h_wishes, .inl (cI, 5, .inl (upd v_wishes_3 l4_1.toNatClampNeg x1))), (h_lengths, .inl (cI, 5, .inl (upd v_lengths_4 l4_1.toNatClampNeg x2))), (h_reaches, .inl (cI, 5, .inl v_reaches_5))] rfl rfl hi_7 dX7_insert_65 rfl ?_
    refine gq_aload_n hC 0 dX7_insert_66 rfl rfl ?_
    refine gq_get hC (kf := 3) 0 hin_X7 rfl rfl (by decide) hw_18 rfl dX7_insert_67 ?_
    refine gq_iload hC 4 dX7_insert_70 rfl ?_
    refine gq_iload_n hC 3 dX7_insert_72 rfl rfl ?_
    obtain ⟨hi_8, hF⟩ := gi_e hF
    refine gq_iast hC 3 0 [(h_t_, .inr (7, [.int v_slotCount_2, .ref h_wishes, .ref h_lengths, .ref h_reaches])), (h_wishes, .inl (cI, 5, .inl (upd v_wishes_3 l4_1.toNatClampNeg x1))), (h_lengths, .inl (cI, 5, .inl (upd v_lengths_4 l4_1.toNatClampNeg x2))), (h_reaches, .inl (cI, 5, .inl (upd v_reaches_5 l4_1.toNatClampNeg x3)))] rfl rfl hi_8 dX7_insert_73 rfl ?_
    refine gq_aload_n hC 0 dX7_insert_74 rfl rfl ?_
    refine gq_dup hC dX7_insert_75 rfl ?_
    refine gq_get hC (kf := 0) 0 hin_X7 rfl rfl (by decide) hw_21 rfl dX7_insert_76 ?_
    refine gq_iconst hC (1 : Int32) dX7_insert_79 (by decide) ?_
    refine gq_iadd hC dX7_insert_80 ?_
    refine gq_put1 hC (kf := 0) 0 [(h_t_, .inr (7, [.int (v_slotCount_2 + (1 : Int32)), .ref h_wishes, .ref h_lengths, .ref h_reaches])), (h_wishes, .inl (cI, 5, .inl (upd v_wishes_3 l4_1.toNatClampNeg x1))), (h_lengths, .inl (cI, 5, .inl (upd v_lengths_4 l4_1.toNatClampNeg x2))), (h_reaches, .inl (cI, 5, .inl (upd v_reaches_5 l4_1.toNatClampNeg x3)))] tyX7 tyX7_ok nmX7 hin_X7 rfl rfl (by decide) hw_21 rfl rfl rfl (Nat.le_of_ble_eq_true rfl) dX7_insert_81 rfl ?_
    refine gq_iload hC 4 dX7_insert_84 rfl ?_
    cases hF
    rw [hQ]
    exact gq_iret hC rfl dX7_insert_86
  unfold F_X7_insert at hF
  refine gq_aload_n hC 0 dX7_insert_0 rfl rfl ?_
  refine gq_get hC (kf := 0) 0 hin_X7 rfl rfl (by decide) hw_21 rfl dX7_insert_1 ?_
  refine gq_iconst hC (5 : Int32) dX7_insert_4 (by decide) ?_
  refine gq_icmp_lt hC 10 dX7_insert_5 (by decide) (fun hc_28 => ?_) (fun hc_28 => ?_)
  · have hF := (if_pos hc_28).symm.trans hF
    refine gq_aload_n hC 0 dX7_insert_10 rfl rfl ?_
    refine gq_get hC (kf := 0) 0 hin_X7 rfl rfl (by decide) hw_21 rfl dX7_insert_11 ?_
    refine gq_istore hC [(4, .int v_slotCount), (0, .ref h_t_), (1, .int x1), (2, .int x2), (3, .int x3)] dX7_insert_14 (by decide) rfl ?_
    have lp16 : ∀ (v_slotCount_10 : Int32), ∀ (e_20 : Int32) (e_21 : (Nat → Int32)) (e_22 : (Nat → Int32)) (e_23 : (Nat → Int32)), Gx p l e (rmD 1) s m args below meth c D A 5 Q 0 0 50 [(0, .ref h_t_), (1, .int x1), (2, .int x2), (3, .int x3), (4, .int e_20)] [] [(h_t_, .inr (7, [.int v_slotCount_10, .ref h_wishes, .ref h_lengths, .ref h_reaches])), (h_wishes, .inl (cI, 5, .inl e_21)), (h_lengths, .inl (cI, 5, .inl e_22)), (h_reaches, .inl (cI, 5, .inl e_23))] → ∀ (N : Nat) (l4_9 : Int32) (v_wishes_11 : Nat → Int32) (v_lengths_12 : Nat → Int32) (v_reaches_13 : Nat → Int32), wh (fun k q => S_X7_insert_16 x1 x2 x3 v_slotCount_10 k q.1 q.2.1 q.2.2.1 q.2.2.2) N (l4_9, v_wishes_11, v_lengths_12, v_reaches_13) = some (e_20, e_21, e_22, e_23) → Gx p l e (rmD 1) s m args below meth c D A 5 Q 0 0 16 [(0, .ref h_t_), (1, .int x1), (2, .int x2), (3, .int x3), (4, .int l4_9)] [] [(h_t_, .inr (7, [.int v_slotCount_10, .ref h_wishes, .ref h_lengths, .ref h_reaches])), (h_wishes, .inl (cI, 5, .inl v_wishes_11)), (h_lengths, .inl (cI, 5, .inl v_lengths_12)), (h_reaches, .inl (cI, 5, .inl v_reaches_13))] := by
      intro v_slotCount_10 e_20 e_21 e_22 e_23 hx0 N
      induction N with
      | zero => intro l4_9 v_wishes_11 v_lengths_12 v_reaches_13 hw; exact absurd hw (wh_0 _ _ _)
      | succ N ih =>
        intro l4_9 v_wishes_11 v_lengths_12 v_reaches_13 hw
        have hF : S_X7_insert_16 x1 x2 x3 v_slotCount_10 (wh (fun k q => S_X7_insert_16 x1 x2 x3 v_slotCount_10 k q.1 q.2.1 q.2.2.1 q.2.2.2) N) l4_9 v_wishes_11 v_lengths_12 v_reaches_13 = some (e_20, e_21, e_22, e_23) := hw
        unfold S_X7_insert_16 at hF
        refine gq_iload hC 4 dX7_insert_16 rfl ?_
        refine gq_if_le hC 50 dX7_insert_18 (by decide) (fun hc_19 => ?_) (fun hc_19 => ?_)
        · have hF := (if_pos hc_19).symm.trans hF
          cases hF
          exact hx0
        · have hF := (if_neg hc_19).symm.trans hF
          refine gq_aload_n hC 0 dX7_insert_21 rfl rfl ?_
          refine gq_get hC (kf := 1) 0 hin_X7 rfl rfl (by decide) hw_9 rfl dX7_insert_22 ?_
          refine gq_iload hC 4 dX7_insert_25 rfl ?_
          refine gq_iconst hC (1 : Int32) dX7_insert_27 (by decide) ?_
          refine gq_isub hC dX7_insert_28 ?_
          obtain ⟨hi_14, hF⟩ := gi_e hF
          refine gq_iald hC 1 0 rfl rfl hi_14 dX7_insert_29 ?_
          refine gq_iload_n hC 1 dX7_insert_30 rfl rfl ?_
          refine gq_icmp_le hC 50 dX7_insert_31 (by decide) (fun hc_18 => ?_) (fun hc_18 => ?_)
          · have hF := (if_pos hc_18).symm.trans hF
            cases hF
            exact hx0
          · have hF := (if_neg hc_18).symm.trans hF
            refine gq_aload_n hC 0 dX7_insert_34 rfl rfl ?_
            refine gq_iload hC 4 dX7_insert_35 rfl ?_
            refine gq_iload hC 4 dX7_insert_37 rfl ?_
            refine gq_iconst hC (1 : Int32) dX7_insert_39 (by decide) ?_
            refine gq_isub hC dX7_insert_40 ?_
            obtain ⟨v_wishes_15, v_lengths_16, v_reaches_17, hc_, hF⟩ := ob3_e hF
            refine gq_callVv hC [0, 1, 2, 3] [(h_t_, .inr (7, [.int v_slotCount_10, .ref h_wishes, .ref h_lengths, .ref h_reaches])), (h_wishes, .inl (cI, 5, .inl v_wishes_15)), (h_lengths, .inl (cI, 5, .inl v_lengths_16)), (h_reaches, .inl (cI, 5, .inl v_reaches_17))] [.int l4_9, .int (l4_9 - (1 : Int32))] [] (k_X7_take l D cI cJ cZ cO z h_t_ h_wishes h_lengths h_reaches l4_9 (l4_9 - (1 : Int32)) v_slotCount_10 v_wishes_11 v_lengths_12 v_reaches_13 v_wishes_15 v_lengths_16 v_reaches_17 hc_) gX7_insert_X7_take rfl ⟨rfl, rfl⟩ hy_X7_take ⟨Nat.le_of_ble_eq_true rfl, Nat.le_of_ble_eq_true rfl⟩ rfl rfl rfl (q0 := 0) rfl rfl rfl (Nat.le_of_ble_eq_true rfl) rfl dX7_insert_41 rfl rfl ?_
            refine gq_iinc hC 4 (l4_9 + (-1 : Int32)) [(4, .int (l4_9 + (-1 : Int32))), (0, .ref h_t_), (1, .int x1), (2, .int x2), (3, .int x3)] dX7_insert_44 rfl rfl (by decide) rfl ?_
            refine gq_goto hC 16 dX7_insert_47 (by decide) ?_
            refine gq_sub [(0, .ref h_t_), (1, .int x1), (2, .int x2), (3, .int x3), (4, .int (l4_9 + (-1 : Int32)))] [1, 2, 3, 4, 0] rfl ?_
            exact ih (l4_9 + (-1 : Int32)) v_wishes_15 v_lengths_16 v_reaches_17 hF
    refine gq_sub [(0, .ref h_t_), (1, .int x1), (2, .int x2), (3, .int x3), (4, .int v_slotCount)] [1, 2, 3, 4, 0] rfl ?_
    obtain ⟨e_24, e_25, e_26, e_27, hw_, hF⟩ := ob4_e hF
    refine lp16 v_slotCount e_24 e_25 e_26 e_27 ?_ wF v_slotCount v_wishes v_lengths v_reaches hw_
    exact jb50 e_24 v_slotCount e_25 e_26 e_27 hF
  · have hF := (if_neg hc_28).symm.trans hF
    refine gq_iconst hC (-1 : Int32) dX7_insert_8 (by decide) ?_
    cases hF
    rw [hQ]
    exact gq_iret hC rfl dX7_insert_9
theorem hy_X7_drop : yX7_drop.cls = RX7 ∧ yX7_drop.cls ≠ "java/lang/invoke/MethodHandle" ∧ yX7_drop.cls ≠ "java/lang/invoke/VarHandle" ∧ (parseMethodDescriptor yX7_drop.desc).map (fun d => d.parameters.length) = some 1 := by decide +kernel
set_option maxRecDepth 20000 in
set_option maxHeartbeats 4000000 in
theorem k_X7_drop (l : Launch) (D : va_G) (cI cJ cZ cO : ClassId) (z : Nat → Nat)   (h_t_ : Nat) (h_wishes : Nat) (h_lengths : Nat) (h_reaches : Nat) (x1 : Int32) (v_slotCount : Int32) (v_wishes : Nat → Int32) (v_lengths : Nat → Int32) (v_reaches : Nat → Int32) (w_slotCount : Int32) (w_wishes : Nat → Int32) (w_lengths : Nat → Int32) (w_reaches : Nat → Int32) (hF : F_X7_drop x1 v_slotCount v_wishes v_lengths v_reaches = some (w_slotCount, w_wishes, w_lengths, w_reaches)) : Mv l yX7_drop wsX7_drop (rmD 1) D (gq_ty cI cJ cZ cO) z [.ref h_t_, .int x1] [(h_t_, .inr (7, [.int v_slotCount, .ref h_wishes, .ref h_lengths, .ref h_reaches])), (h_wishes, .inl (cI, 5, .inl v_wishes)), (h_lengths, .inl (cI, 5, .inl v_lengths)), (h_reaches, .inl (cI, 5, .inl v_reaches))] [(h_t_, .inr (7, [.int w_slotCount, .ref h_wishes, .ref h_lengths, .ref h_reaches])), (h_wishes, .inl (cI, 5, .inl w_wishes)), (h_lengths, .inl (cI, 5, .inl w_lengths)), (h_reaches, .inl (cI, 5, .inl w_reaches))] 0 0 := by
  refine Mv.of (cc := cX7_drop) (maxL := 3) (by decide) rfl (Nat.le_of_ble_eq_true rfl) ⟨Nat.le_refl 0, Nat.le_refl 0⟩ ?_
  intro p e s m args below meth c A hC ha
  have hin_X7 : ∀ w ∈ wsX70, w ∈ wsX7_drop := by decide +kernel
  have hw_21 : Cond.fieldLink RX7 21 (TX7 0).1 (TX7 0).2.1 (TX7 0).2.2.1 ∈ wsX7_drop := by decide +kernel
  obtain ⟨Q, hQ⟩ : ∃ Q, Q = gq_Qv below D A args s [(h_t_, .inr (7, [.int w_slotCount, .ref h_wishes, .ref h_lengths, .ref h_reaches])), (h_wishes, .inl (cI, 5, .inl w_wishes)), (h_lengths, .inl (cI, 5, .inl w_lengths)), (h_reaches, .inl (cI, 5, .inl w_reaches))] 0 0 := ⟨_, rfl⟩
  rw [← hQ]
  refine gq_loc [(0, .ref h_t_), (1, .int x1)] rfl ?_
  unfold F_X7_drop at hF
  refine gq_iload_n hC 1 dX7_drop_0 rfl rfl ?_
  refine gq_istore_n hC [(2, .int x1), (0, .ref h_t_), (1, .int x1)] dX7_drop_1 rfl (by decide) rfl ?_
  have lp2 : ∀ (v_slotCount_2 : Int32), ∀ (e_10 : (Nat → Int32)) (e_11 : (Nat → Int32)) (e_12 : (Nat → Int32)), Gx p l e (rmD 1) s m args below meth c D A 3 Q 0 0 26 [(0, .ref h_t_)] [] [(h_t_, .inr (7, [.int v_slotCount_2, .ref h_wishes, .ref h_lengths, .ref h_reaches])), (h_wishes, .inl (cI, 5, .inl e_10)), (h_lengths, .inl (cI, 5, .inl e_11)), (h_reaches, .inl (cI, 5, .inl e_12))] → ∀ (N : Nat) (l2_1 : Int32) (v_wishes_3 : Nat → Int32) (v_lengths_4 : Nat → Int32) (v_reaches_5 : Nat → Int32), wh (fun k q => S_X7_drop_2 v_slotCount_2 k q.1 q.2.1 q.2.2.1 q.2.2.2) N (l2_1, v_wishes_3, v_lengths_4, v_reaches_5) = some (e_10, e_11, e_12) → Gx p l e (rmD 1) s m args below meth c D A 3 Q 0 0 2 [(0, .ref h_t_), (2, .int l2_1)] [] [(h_t_, .inr (7, [.int v_slotCount_2, .ref h_wishes, .ref h_lengths, .ref h_reaches])), (h_wishes, .inl (cI, 5, .inl v_wishes_3)), (h_lengths, .inl (cI, 5, .inl v_lengths_4)), (h_reaches, .inl (cI, 5, .inl v_reaches_5))] := by
    intro v_slotCount_2 e_10 e_11 e_12 hx0 N
    induction N with
    | zero => intro l2_1 v_wishes_3 v_lengths_4 v_reaches_5 hw; exact absurd hw (wh_0 _ _ _)
    | succ N ih =>
      intro l2_1 v_wishes_3 v_lengths_4 v_reaches_5 hw
      have hF : S_X7_drop_2 v_slotCount_2 (wh (fun k q => S_X7_drop_2 v_slotCount_2 k q.1 q.2.1 q.2.2.1 q.2.2.2) N) l2_1 v_wishes_3 v_lengths_4 v_reaches_5 = some (e_10, e_11, e_12) := hw
      unfold S_X7_drop_2 at hF
      refine gq_iload_n hC 1 dX7_drop_2 rfl rfl ?_
      refine gq_aload_n hC 0 dX7_drop_3 rfl rfl ?_
      refine gq_get hC (kf := 0) 0 hin_X7 rfl rfl (by decide) hw_21 rfl dX7_drop_4 ?_
      refine gq_iconst hC (1 : Int32) dX7_drop_7 (by decide) ?_
      refine gq_isub hC dX7_drop_8 ?_
      refine gq_icmp_ge hC 26 dX7_drop_9 (by decide) (fun hc_9 => ?_) (fun hc_9 => ?_)
      · have hF := (if_pos hc_9).symm.trans hF
        refine gq_sub [(0, .ref h_t_)] [0] rfl ?_
        cases hF
        exact hx0
      · have hF := (if_neg hc_9).symm.trans hF
        refine gq_aload_n hC 0 dX7_drop_12 rfl rfl ?_
        refine gq_iload_n hC 1 dX7_drop_13 rfl rfl ?_
        refine gq_iload_n hC 1 dX7_drop_14 rfl rfl ?_
        refine gq_iconst hC (1 : Int32) dX7_drop_15 (by decide) ?_
        refine gq_iadd hC dX7_drop_16 ?_
        obtain ⟨v_wishes_6, v_lengths_7, v_reaches_8, hc_, hF⟩ := ob3_e hF
        refine gq_callVv hC [0, 1, 2, 3] [(h_t_, .inr (7, [.int v_slotCount_2, .ref h_wishes, .ref h_lengths, .ref h_reaches])), (h_wishes, .inl (cI, 5, .inl v_wishes_6)), (h_lengths, .inl (cI, 5, .inl v_lengths_7)), (h_reaches, .inl (cI, 5, .inl v_reaches_8))] [.int l2_1, .int (l2_1 + (1 : Int32))] [] (k_X7_take l D cI cJ cZ cO z h_t_ h_wishes h_lengths h_reaches l2_1 (l2_1 + (1 : Int32)) v_slotCount_2 v_wishes_3 v_lengths_4 v_reaches_5 v_wishes_6 v_lengths_7 v_reaches_8 hc_) gX7_drop_X7_take rfl ⟨rfl, rfl⟩ hy_X7_take ⟨Nat.le_of_ble_eq_true rfl, Nat.le_of_ble_eq_true rfl⟩ rfl rfl rfl (q0 := 0) rfl rfl rfl (Nat.le_of_ble_eq_true rfl) rfl dX7_drop_17 rfl rfl ?_
        refine gq_iinc hC 1 (l2_1 + (1 : Int32)) [(2, .int (l2_1 + (1 : Int32))), (0, .ref h_t_)] dX7_drop_20 rfl rfl (by decide) rfl ?_
        refine gq_goto hC 2 dX7_drop_23 (by decide) ?_
        refine gq_sub [(0, .ref h_t_), (2, .int (l2_1 + (1 : Int32)))] [1, 0] rfl ?_
        exact ih (l2_1 + (1 : Int32)) v_wishes_6 v_lengths_7 v_reaches_8 hF
  refine gq_sub [(0, .ref h_t_), (2, .int x1)] [1, 0] rfl ?_
  obtain ⟨e_13, e_14, e_15, hw_, hF⟩ := ob3_e hF
  refine lp2 v_slotCount e_13 e_14 e_15 ?_ wF x1 v_wishes v_lengths v_reaches hw_
  refine gq_aload_n hC 0 dX7_drop_26 rfl rfl ?_
  refine gq_dup hC dX7_drop_27 rfl ?_
  refine gq_get hC (kf := 0) 0 hin_X7 rfl rfl (by decide) hw_21 rfl dX7_drop_28 ?_
  refine gq_iconst hC (1 : Int32) dX7_drop_31 (by decide) ?_
  refine gq_isub hC dX7_drop_32 ?_
  refine gq_put1 hC (kf := 0) 0 [(h_t_, .inr (7, [.int (v_slotCount - (1 : Int32)), .ref h_wishes, .ref h_lengths, .ref h_reaches])), (h_wishes, .inl (cI, 5, .inl e_13)), (h_lengths, .inl (cI, 5, .inl e_14)), (h_reaches, .inl (cI, 5, .inl e_15))] tyX7 tyX7_ok nmX7 hin_X7 rfl rfl (by decide) hw_21 rfl rfl rfl (Nat.le_of_ble_eq_true rfl) dX7_drop_33 rfl ?_
  cases hF
  rw [hQ]
  exact gq_vret hC dX7_drop_36
theorem hy_X2_copyFrom : yX2_copyFrom.cls = RX2 ∧ yX2_copyFrom.cls ≠ "java/lang/invoke/MethodHandle" ∧ yX2_copyFrom.cls ≠ "java/lang/invoke/VarHandle" ∧ (parseMethodDescriptor yX2_copyFrom.desc).map (fun d => d.parameters.length) = some 1 := by decide +kernel
set_option maxRecDepth 20000 in
set_option maxHeartbeats 4000000 in
theorem k_X2_copyFrom (l : Launch) (D : va_G) (cI cJ cZ cO : ClassId) (z : Nat → Nat)   (h_t_ : Nat) (h_rows : Nat) (h_starts : Nat) (h_durations : Nat) (h_p1 : Nat) (h_p1_rows : Nat) (h_p1_starts : Nat) (h_p1_durations : Nat)  (v_exists : Int32) (v_segmentCount : Int32) (v_total : Int32) (v_rows : Nat → Int32) (v_starts : Nat → Int32) (v_durations : Nat → Int32) (v_p1_exists : Int32) (v_p1_segmentCount : Int32) (v_p1_total : Int32) (v_p1_rows : Nat → Int32) (v_p1_starts : Nat → Int32) (v_p1_durations : Nat → Int32) (w_exists : Int32) (w_segmentCount : Int32) (w_total : Int32) (w_rows : Nat → Int32) (w_starts : Nat → Int32) (w_durations : Nat → Int32) (hF : F_X2_copyFrom v_exists v_segmentCount v_total v_rows v_starts v_durations v_p1_exists v_p1_segmentCount v_p1_total v_p1_rows v_p1_starts v_p1_durations = some (w_exists, w_segmentCount, w_total, w_rows, w_starts, w_durations)) : Mv l yX2_copyFrom wsX2_copyFrom (rmD 1) D (gq_ty cI cJ cZ cO) z [.ref h_t_, .ref h_p1] [(h_t_, .inr (2, [.int v_exists, .int v_segmentCount, .int v_total, .ref h_rows, .ref h_starts, .ref h_durations])), (h_rows, .inl (cI, 32, .inl v_rows)), (h_starts, .inl (cI, 32, .inl v_starts)), (h_durations, .inl (cI, 32, .inl v_durations)), (h_p1, .inr (2, [.int v_p1_exists, .int v_p1_segmentCount, .int v_p1_total, .ref h_p1_rows, .ref h_p1_starts, .ref h_p1_durations])), (h_p1_rows, .inl (cI, 32, .inl v_p1_rows)), (h_p1_starts, .inl (cI, 32, .inl v_p1_starts)), (h_p1_durations, .inl (cI, 32, .inl v_p1_durations))] [(h_t_, .inr (2, [.int w_exists, .int w_segmentCount, .int w_total, .ref h_rows, .ref h_starts, .ref h_durations])), (h_rows, .inl (cI, 32, .inl w_rows)), (h_starts, .inl (cI, 32, .inl w_starts)), (h_durations, .inl (cI, 32, .inl w_durations)), (h_p1, .inr (2, [.int v_p1_exists, .int v_p1_segmentCount, .int v_p1_total, .ref h_p1_rows, .ref h_p1_starts, .ref h_p1_durations])), (h_p1_rows, .inl (cI, 32, .inl v_p1_rows)), (h_p1_starts, .inl (cI, 32, .inl v_p1_starts)), (h_p1_durations, .inl (cI, 32, .inl v_p1_durations))] 0 0 := by
  refine Mv.of (cc := cX2_copyFrom) (maxL := 2) (by decide) rfl (Nat.le_of_ble_eq_true rfl) ⟨Nat.le_refl 0, Nat.le_refl 0⟩ ?_
  intro p e s m args below meth c A hC ha
  have hin_X2 : ∀ w ∈ wsX20, w ∈ wsX2_copyFrom := by decide +kernel
  have hw_9 : Cond.fieldLink RX2 9 (TX2 3).1 (TX2 3).2.1 (TX2 3).2.2.1 ∈ wsX2_copyFrom := by decide +kernel
  have hw_15 : Cond.fieldLink RX2 15 (TX2 4).1 (TX2 4).2.1 (TX2 4).2.2.1 ∈ wsX2_copyFrom := by decide +kernel
  have hw_18 : Cond.fieldLink RX2 18 (TX2 5).1 (TX2 5).2.1 (TX2 5).2.2.1 ∈ wsX2_copyFrom := by decide +kernel
  have hw_21 : Cond.fieldLink RX2 21 (TX2 0).1 (TX2 0).2.1 (TX2 0).2.2.1 ∈ wsX2_copyFrom := by decide +kernel
  have hw_25 : Cond.fieldLink RX2 25 (TX2 1).1 (TX2 1).2.1 (TX2 1).2.2.1 ∈ wsX2_copyFrom := by decide +kernel
  have hw_29 : Cond.fieldLink RX2 29 (TX2 2).1 (TX2 2).2.1 (TX2 2).2.2.1 ∈ wsX2_copyFrom := by decide +kernel
  obtain ⟨Q, hQ⟩ : ∃ Q, Q = gq_Qv below D A args s [(h_t_, .inr (2, [.int w_exists, .int w_segmentCount, .int w_total, .ref h_rows, .ref h_starts, .ref h_durations])), (h_rows, .inl (cI, 32, .inl w_rows)), (h_starts, .inl (cI, 32, .inl w_starts)), (h_durations, .inl (cI, 32, .inl w_durations)), (h_p1, .inr (2, [.int v_p1_exists, .int v_p1_segmentCount, .int v_p1_total, .ref h_p1_rows, .ref h_p1_starts, .ref h_p1_durations])), (h_p1_rows, .inl (cI, 32, .inl v_p1_rows)), (h_p1_starts, .inl (cI, 32, .inl v_p1_starts)), (h_p1_durations, .inl (cI, 32, .inl v_p1_durations))] 0 0 := ⟨_, rfl⟩
  rw [← hQ]
  refine gq_loc [(0, .ref h_t_), (1, .ref h_p1)] rfl ?_
  unfold F_X2_copyFrom at hF
  refine gq_aload_n hC 0 dX2_copyFrom_0 rfl rfl ?_
  refine gq_aload_n hC 1 dX2_copyFrom_1 rfl rfl ?_
  refine gq_get hC (kf := 0) 4 hin_X2 rfl rfl (by decide) hw_21 rfl dX2_copyFrom_2 ?_
  obtain ⟨hb_1, hF⟩ := gb_e hF
  refine gq_put1 hC (kf := 0) 0 [(h_t_, .inr (2, [.int v_p1_exists, .int v_segmentCount, .int v_total, .ref h_rows, .ref h_starts, .ref h_durations])), (h_rows, .inl (cI, 32, .inl v_rows)), (h_starts, .inl (cI, 32, .inl v_starts)), (h_durations, .inl (cI, 32, .inl v_durations)), (h_p1, .inr (2, [.int v_p1_exists, .int v_p1_segmentCount, .int v_p1_total, .ref h_p1_rows, .ref h_p1_starts, .ref h_p1_durations])), (h_p1_rows, .inl (cI, 32, .inl v_p1_rows)), (h_p1_starts, .inl (cI, 32, .inl v_p1_starts)), (h_p1_durations, .inl (cI, 32, .inl v_p1_durations))] tyX2 tyX2_ok nmX2 hin_X2 rfl rfl (by decide) hw_21 rfl (gb_n hb_1) (gb_f hb_1) (Nat.le_of_ble_eq_true rfl) dX2_copyFrom_5 rfl ?_
  refine gq_aload_n hC 0 dX2_copyFrom_8 rfl rfl ?_
  refine gq_aload_n hC 1 dX2_copyFrom_9 rfl rfl ?_
  refine gq_get hC (kf := 1) 4 hin_X2 rfl rfl (by decide) hw_25 rfl dX2_copyFrom_10 ?_
  refine gq_put1 hC (kf := 1) 0 [(h_t_, .inr (2, [.int v_p1_exists, .int v_p1_segmentCount, .int v_total, .ref h_rows, .ref h_starts, .ref h_durations])), (h_rows, .inl (cI, 32, .inl v_rows)), (h_starts, .inl (cI, 32, .inl v_starts)), (h_durations, .inl (cI, 32, .inl v_durations)), (h_p1, .inr (2, [.int v_p1_exists, .int v_p1_segmentCount, .int v_p1_total, .ref h_p1_rows, .ref h_p1_starts, .ref h_p1_durations])), (h_p1_rows, .inl (cI, 32, .inl v_p1_rows)), (h_p1_starts, .inl (cI, 32, .inl v_p1_starts)), (h_p1_durations, .inl (cI, 32, .inl v_p1_durations))] tyX2 tyX2_ok nmX2 hin_X2 rfl rfl (by decide) hw_25 rfl rfl rfl (Nat.le_of_ble_eq_true rfl) dX2_copyFrom_13 rfl ?_
  refine gq_aload_n hC 0 dX2_copyFrom_16 rfl rfl ?_
  refine gq_aload_n hC 1 dX2_copyFrom_17 rfl rfl ?_
  refine gq_get hC (kf := 2) 4 hin_X2 rfl rfl (by decide) hw_29 rfl dX2_copyFrom_18 ?_
  refine gq_put1 hC (kf := 2) 0 [(h_t_, .inr (2, [.int v_p1_exists, .int v_p1_segmentCount, .int v_p1_total, .ref h_rows, .ref h_starts, .ref h_durations])), (h_rows, .inl (cI, 32, .inl v_rows)), (h_starts, .inl (cI, 32, .inl v_starts)), (h_durations, .inl (cI, 32, .inl v_durations)), (h_p1, .inr (2, [.int v_p1_exists, .int v_p1_segmentCount, .int v_p1_total, .ref h_p1_rows, .ref h_p1_starts, .ref h_p1_durations])), (h_p1_rows, .inl (cI, 32, .inl v_p1_rows)), (h_p1_starts, .inl (cI, 32, .inl v_p1_starts)), (h_p1_durations, .inl (cI, 32, .inl v_p1_durations))] tyX2 tyX2_ok nmX2 hin_X2 rfl rfl (by decide) hw_29 rfl rfl rfl (Nat.le_of_ble_eq_true rfl) dX2_copyFrom_21 rfl ?_
  refine gq_aload_n hC 1 dX2_copyFrom_24 rfl rfl ?_
  refine gq_get hC (kf := 3) 4 hin_X2 rfl rfl (by decide) hw_9 rfl dX2_copyFrom_25 ?_
  refine gq_iconst hC (0 : Int32) dX2_copyFrom_28 (by decide) ?_
  refine gq_aload_n hC 0 dX2_copyFrom_29 rfl rfl ?_
  refine gq_get hC (kf := 3) 0 hin_X2 rfl rfl (by decide) hw_9 rfl dX2_copyFrom_30 ?_
  refine gq_iconst hC (0 : Int32) dX2_copyFrom_33 (by decide) ?_
  refine gq_bipush hC (32 : Int32) dX2_copyFrom_34 (by decide) ?_
  refine gq_copyi hC 5 1 0 [(h_t_, .inr (2, [.int v_p1_exists, .int v_p1_segmentCount, .int v_p1_total, .ref h_rows, .ref h_starts, .ref h_durations])), (h_rows, .inl (cI, 32, .inl (va_cpy v_p1_rows v_rows (0 : Int32).toNatClampNeg (0 : Int32).toNatClampNeg (32 : Int32).toNatClampNeg))), (h_starts, .inl (cI, 32, .inl v_starts)), (h_durations, .inl (cI, 32, .inl v_durations)), (h_p1, .inr (2, [.int v_p1_exists, .int v_p1_segmentCount, .int v_p1_total, .ref h_p1_rows, .ref h_p1_starts, .ref h_p1_durations])), (h_p1_rows, .inl (cI, 32, .inl v_p1_rows)), (h_p1_starts, .inl (cI, 32, .inl v_p1_starts)), (h_p1_durations, .inl (cI, 32, .inl v_p1_durations))] ⟨by decide +kernel, by decide +kernel, by decide +kernel, by decide +kernel⟩ rfl rfl rfl (by decide) (by decide) (by decide) (by decide) (by decide) ⟨Nat.le_of_ble_eq_true rfl, by decide⟩ dX2_copyFrom_36 rfl ?_
  refine gq_aload_n hC 1 dX2_copyFrom_39 rfl rfl ?_
  refine gq_get hC (kf := 4) 4 hin_X2 rfl rfl (by decide) hw_15 rfl dX2_copyFrom_40 ?_
  refine gq_iconst hC (0 : Int32) dX2_copyFrom_43 (by decide) ?_
  refine gq_aload_n hC 0 dX2_copyFrom_44 rfl rfl ?_
  refine gq_get hC (kf := 4) 0 hin_X2 rfl rfl (by decide) hw_15 rfl dX2_copyFrom_45 ?_
  refine gq_iconst hC (0 : Int32) dX2_copyFrom_48 (by decide) ?_
  refine gq_bipush hC (32 : Int32) dX2_copyFrom_49 (by decide) ?_
  refine gq_copyi hC 6 2 0 [(h_t_, .inr (2, [.int v_p1_exists, .int v_p1_segmentCount, .int v_p1_total, .ref h_rows, .ref h_starts, .ref h_durations])), (h_rows, .inl (cI, 32, .inl (va_cpy v_p1_rows v_rows (0 : Int32).toNatClampNeg (0 : Int32).toNatClampNeg (32 : Int32).toNatClampNeg))), (h_starts, .inl (cI, 32, .inl (va_cpy v_p1_starts v_starts (0 : Int32).toNatClampNeg (0 : Int32).toNatClampNeg (32 : Int32).toNatClampNeg))), (h_durations, .inl (cI, 32, .inl v_durations)), (h_p1, .inr (2, [.int v_p1_exists, .int v_p1_segmentCount, .int v_p1_total, .ref h_p1_rows, .ref h_p1_starts, .ref h_p1_durations])), (h_p1_rows, .inl (cI, 32, .inl v_p1_rows)), (h_p1_starts, .inl (cI, 32, .inl v_p1_starts)), (h_p1_durations, .inl (cI, 32, .inl v_p1_durations))] ⟨by decide +kernel, by decide +kernel, by decide +kernel, by decide +kernel⟩ rfl rfl rfl (by decide) (by decide) (by decide) (by decide) (by decide) ⟨Nat.le_of_ble_eq_true rfl, by decide⟩ dX2_copyFrom_51 rfl ?_
  refine gq_aload_n hC 1 dX2_copyFrom_54 rfl rfl ?_
  refine gq_get hC (kf := 5) 4 hin_X2 rfl rfl (by decide) hw_18 rfl dX2_copyFrom_55 ?_
  refine gq_iconst hC (0 : Int32) dX2_copyFrom_58 (by decide) ?_
  refine gq_aload_n hC 0 dX2_copyFrom_59 rfl rfl ?_
  refine gq_get hC (kf := 5) 0 hin_X2 rfl rfl (by decide) hw_18 rfl dX2_copyFrom_60 ?_
  refine gq_iconst hC (0 : Int32) dX2_copyFrom_63 (by decide) ?_
  refine gq_bipush hC (32 : Int32) dX2_copyFrom_64 (by decide) ?_
  refine gq_copyi hC 7 3 0 [(h_t_, .inr (2, [.int v_p1_exists, .int v_p1_segmentCount, .int v_p1_total, .ref h_rows, .ref h_starts, .ref h_durations])), (h_rows, .inl (cI, 32, .inl (va_cpy v_p1_rows v_rows (0 : Int32).toNatClampNeg (0 : Int32).toNatClampNeg (32 : Int32).toNatClampNeg))), (h_starts, .inl (cI, 32, .inl (va_cpy v_p1_starts v_starts (0 : Int32).toNatClampNeg (0 : Int32).toNatClampNeg (32 : Int32).toNatClampNeg))), (h_durations, .inl (cI, 32, .inl (va_cpy v_p1_durations v_durations (0 : Int32).toNatClampNeg (0 : Int32).toNatClampNeg (32 : Int32).toNatClampNeg))), (h_p1, .inr (2, [.int v_p1_exists, .int v_p1_segmentCount, .int v_p1_total, .ref h_p1_rows, .ref h_p1_starts, .ref h_p1_durations])), (h_p1_rows, .inl (cI, 32, .inl v_p1_rows)), (h_p1_starts, .inl (cI, 32, .inl v_p1_starts)), (h_p1_durations, .inl (cI, 32, .inl v_p1_durations))] ⟨by decide +kernel, by decide +kernel, by decide +kernel, by decide +kernel⟩ rfl rfl rfl (by decide) (by decide) (by decide) (by decide) (by decide) ⟨Nat.le_of_ble_eq_true rfl, by decide⟩ dX2_copyFrom_66 rfl ?_
  cases hF
  rw [hQ]
  exact gq_vret hC dX2_copyFrom_69
theorem hy_X2_takeVersion : yX2_takeVersion.cls = RX2 ∧ yX2_takeVersion.cls ≠ "java/lang/invoke/MethodHandle" ∧ yX2_takeVersion.cls ≠ "java/lang/invoke/VarHandle" ∧ (parseMethodDescriptor yX2_takeVersion.desc).map (fun d => d.parameters.length) = some 1 := by decide +kernel
set_option maxRecDepth 20000 in
set_option maxHeartbeats 4000000 in
theorem k_X2_takeVersion (l : Launch) (D : va_G) (cI cJ cZ cO : ClassId) (z : Nat → Nat)   (h_t_ : Nat) (h_rows : Nat) (h_starts : Nat) (h_durations : Nat) (h_p1 : Nat) (h_p1_order : Nat) (h_p1_durations : Nat) (h_p1_pauses : Nat) (h_p1_sizes : Nat) (h_p1_words : Nat) (h_p1_names : Nat)  (v_exists : Int32) (v_segmentCount : Int32) (v_total : Int32) (v_rows : Nat → Int32) (v_starts : Nat → Int32) (v_durations : Nat → Int32) (v_p1_segmentCount : Int32) (v_p1_wordCount : Int32) (v_p1_order : Nat → Int32) (v_p1_durations : Nat → Int32) (w_exists : Int32) (w_segmentCount : Int32) (w_total : Int32) (w_rows : Nat → Int32) (w_starts : Nat → Int32) (w_durations : Nat → Int32) (hF : F_X2_takeVersion v_exists v_segmentCount v_total v_rows v_starts v_durations v_p1_segmentCount v_p1_order v_p1_durations = some (w_exists, w_segmentCount, w_total, w_rows, w_starts, w_durations)) : Mv l yX2_takeVersion wsX2_takeVersion (rmD 1) D (gq_ty cI cJ cZ cO) z [.ref h_t_, .ref h_p1] [(h_t_, .inr (2, [.int v_exists, .int v_segmentCount, .int v_total, .ref h_rows, .ref h_starts, .ref h_durations])), (h_rows, .inl (cI, 32, .inl v_rows)), (h_starts, .inl (cI, 32, .inl v_starts)), (h_durations, .inl (cI, 32, .inl v_durations)), (h_p1, .inr (9, [.int v_p1_segmentCount, .int v_p1_wordCount, .ref h_p1_order, .ref h_p1_durations, .ref h_p1_pauses, .ref h_p1_sizes, .ref h_p1_words, .ref h_p1_names])), (h_p1_order, .inl (cI, 32, .inl v_p1_order)), (h_p1_durations, .inl (cI, 32, .inl v_p1_durations))] [(h_t_, .inr (2, [.int w_exists, .int w_segmentCount, .int w_total, .ref h_rows, .ref h_starts, .ref h_durations])), (h_rows, .inl (cI, 32, .inl w_rows)), (h_starts, .inl (cI, 32, .inl w_starts)), (h_durations, .inl (cI, 32, .inl w_durations)), (h_p1, .inr (9, [.int v_p1_segmentCount, .int v_p1_wordCount, .ref h_p1_order, .ref h_p1_durations, .ref h_p1_pauses, .ref h_p1_sizes, .ref h_p1_words, .ref h_p1_names])), (h_p1_order, .inl (cI, 32, .inl v_p1_order)), (h_p1_durations, .inl (cI, 32, .inl v_p1_durations))] 0 0 := by
  refine Mv.of (cc := cX2_takeVersion) (maxL := 3) (by decide) rfl (Nat.le_of_ble_eq_true rfl) ⟨Nat.le_refl 0, Nat.le_refl 0⟩ ?_
  intro p e s m args below meth c A hC ha
  have hin_X2 : ∀ w ∈ wsX20, w ∈ wsX2_takeVersion := by decide +kernel
  have hin_X9 : ∀ w ∈ wsX90, w ∈ wsX2_takeVersion := by decide +kernel
  have hw_9 : Cond.fieldLink RX2 9 (TX2 3).1 (TX2 3).2.1 (TX2 3).2.2.1 ∈ wsX2_takeVersion := by decide +kernel
  have hw_15 : Cond.fieldLink RX2 15 (TX2 4).1 (TX2 4).2.1 (TX2 4).2.2.1 ∈ wsX2_takeVersion := by decide +kernel
  have hw_18 : Cond.fieldLink RX2 18 (TX2 5).1 (TX2 5).2.1 (TX2 5).2.2.1 ∈ wsX2_takeVersion := by decide +kernel
  have hw_21 : Cond.fieldLink RX2 21 (TX2 0).1 (TX2 0).2.1 (TX2 0).2.2.1 ∈ wsX2_takeVersion := by decide +kernel
  have hw_25 : Cond.fieldLink RX2 25 (TX2 1).1 (TX2 1).2.1 (TX2 1).2.2.1 ∈ wsX2_takeVersion := by decide +kernel
  have hw_29 : Cond.fieldLink RX2 29 (TX2 2).1 (TX2 2).2.1 (TX2 2).2.2.1 ∈ wsX2_takeVersion := by decide +kernel
  have hw_38 : Cond.fieldLink RX2 38 (TX9 0).1 (TX9 0).2.1 (TX9 0).2.2.1 ∈ wsX2_takeVersion := by decide +kernel
  have hw_41 : Cond.fieldLink RX2 41 (TX9 2).1 (TX9 2).2.1 (TX9 2).2.2.1 ∈ wsX2_takeVersion := by decide +kernel
  obtain ⟨Q, hQ⟩ : ∃ Q, Q = gq_Qv below D A args s [(h_t_, .inr (2, [.int w_exists, .int w_segmentCount, .int w_total, .ref h_rows, .ref h_starts, .ref h_durations])), (h_rows, .inl (cI, 32, .inl w_rows)), (h_starts, .inl (cI, 32, .inl w_starts)), (h_durations, .inl (cI, 32, .inl w_durations)), (h_p1, .inr (9, [.int v_p1_segmentCount, .int v_p1_wordCount, .ref h_p1_order, .ref h_p1_durations, .ref h_p1_pauses, .ref h_p1_sizes, .ref h_p1_words, .ref h_p1_names])), (h_p1_order, .inl (cI, 32, .inl v_p1_order)), (h_p1_durations, .inl (cI, 32, .inl v_p1_durations))] 0 0 := ⟨_, rfl⟩
  rw [← hQ]
  refine gq_loc [(0, .ref h_t_), (1, .ref h_p1)] rfl ?_
  unfold F_X2_takeVersion at hF
  refine gq_aload_n hC 0 dX2_takeVersion_0 rfl rfl ?_
  refine gq_iconst hC (1 : Int32) dX2_takeVersion_1 (by decide) ?_
  refine gq_put1 hC (kf := 0) 0 [(h_t_, .inr (2, [.int (1 : Int32), .int v_segmentCount, .int v_total, .ref h_rows, .ref h_starts, .ref h_durations])), (h_rows, .inl (cI, 32, .inl v_rows)), (h_starts, .inl (cI, 32, .inl v_starts)), (h_durations, .inl (cI, 32, .inl v_durations)), (h_p1, .inr (9, [.int v_p1_segmentCount, .int v_p1_wordCount, .ref h_p1_order, .ref h_p1_durations, .ref h_p1_pauses, .ref h_p1_sizes, .ref h_p1_words, .ref h_p1_names])), (h_p1_order, .inl (cI, 32, .inl v_p1_order)), (h_p1_durations, .inl (cI, 32, .inl v_p1_durations))] tyX2 tyX2_ok nmX2 hin_X2 rfl rfl (by decide) hw_21 rfl rfl rfl (Nat.le_of_ble_eq_true rfl) dX2_takeVersion_2 rfl ?_
  refine gq_aload_n hC 0 dX2_takeVersion_5 rfl rfl ?_
  refine gq_aload_n hC 1 dX2_takeVersion_6 rfl rfl ?_
  refine gq_get hC (kf := 0) 4 hin_X9 rfl rfl (by decide) hw_38 rfl dX2_takeVersion_7 ?_
  refine gq_put1 hC (kf := 1) 0 [(h_t_, .inr (2, [.int (1 : Int32), .int v_p1_segmentCount, .int v_total, .ref h_rows, .ref h_starts, .ref h_durations])), (h_rows, .inl (cI, 32, .inl v_rows)), (h_starts, .inl (cI, 32, .inl v_starts)), (h_durations, .inl (cI, 32, .inl v_durations)), (h_p1, .inr (9, [.int v_p1_segmentCount, .int v_p1_wordCount, .ref h_p1_order, .ref h_p1_durations, .ref h_p1_pauses, .ref h_p1_sizes, .ref h_p1_words, .ref h_p1_names])), (h_p1_order, .inl (cI, 32, .inl v_p1_order)), (h_p1_durations, .inl (cI, 32, .inl v_p1_durations))] tyX2 tyX2_ok nmX2 hin_X2 rfl rfl (by decide) hw_25 rfl rfl rfl (Nat.le_of_ble_eq_true rfl) dX2_takeVersion_10 rfl ?_
  refine gq_aload_n hC 0 dX2_takeVersion_13 rfl rfl ?_
  refine gq_iconst hC (0 : Int32) dX2_takeVersion_14 (by decide) ?_
  refine gq_put1 hC (kf := 2) 0 [(h_t_, .inr (2, [.int (1 : Int32), .int v_p1_segmentCount, .int (0 : Int32), .ref h_rows, .ref h_starts, .ref h_durations])), (h_rows, .inl (cI, 32, .inl v_rows)), (h_starts, .inl (cI, 32, .inl v_starts)), (h_durations, .inl (cI, 32, .inl v_durations)), (h_p1, .inr (9, [.int v_p1_segmentCount, .int v_p1_wordCount, .ref h_p1_order, .ref h_p1_durations, .ref h_p1_pauses, .ref h_p1_sizes, .ref h_p1_words, .ref h_p1_names])), (h_p1_order, .inl (cI, 32, .inl v_p1_order)), (h_p1_durations, .inl (cI, 32, .inl v_p1_durations))] tyX2 tyX2_ok nmX2 hin_X2 rfl rfl (by decide) hw_29 rfl rfl rfl (Nat.le_of_ble_eq_true rfl) dX2_takeVersion_15 rfl ?_
  refine gq_iconst hC (0 : Int32) dX2_takeVersion_18 (by decide) ?_
  refine gq_istore_n hC [(2, .int (0 : Int32)), (0, .ref h_t_), (1, .ref h_p1)] dX2_takeVersion_19 rfl (by decide) rfl ?_
  have lp20 : ∀ (v_exists_2 : Int32) (v_segmentCount_3 : Int32), ∀ (e_15 : (Int32)) (e_16 : (Nat → Int32)) (e_17 : (Nat → Int32)) (e_18 : (Nat → Int32)), Gx p l e (rmD 1) s m args below meth c D A 3 Q 0 0 82 [] [] [(h_t_, .inr (2, [.int v_exists_2, .int v_segmentCount_3, .int e_15, .ref h_rows, .ref h_starts, .ref h_durations])), (h_rows, .inl (cI, 32, .inl e_16)), (h_starts, .inl (cI, 32, .inl e_17)), (h_durations, .inl (cI, 32, .inl e_18)), (h_p1, .inr (9, [.int v_p1_segmentCount, .int v_p1_wordCount, .ref h_p1_order, .ref h_p1_durations, .ref h_p1_pauses, .ref h_p1_sizes, .ref h_p1_words, .ref h_p1_names])), (h_p1_order, .inl (cI, 32, .inl v_p1_order)), (h_p1_durations, .inl (cI, 32, .inl v_p1_durations))] → ∀ (N : Nat) (l2_1 : Int32) (v_total_4 : Int32) (v_rows_5 : Nat → Int32) (v_starts_6 : Nat → Int32) (v_durations_7 : Nat → Int32), wh (fun k q => S_X2_takeVersion_20 v_exists_2 v_segmentCount_3 v_p1_order v_p1_durations k q.1 q.2.1 q.2.2.1 q.2.2.2.1 q.2.2.2.2) N (l2_1, v_total_4, v_rows_5, v_starts_6, v_durations_7) = some (e_15, e_16, e_17, e_18) → Gx p l e (rmD 1) s m args below meth c D A 3 Q 0 0 20 [(0, .ref h_t_), (1, .ref h_p1), (2, .int l2_1)] [] [(h_t_, .inr (2, [.int v_exists_2, .int v_segmentCount_3, .int v_total_4, .ref h_rows, .ref h_starts, .ref h_durations])), (h_rows, .inl (cI, 32, .inl v_rows_5)), (h_starts, .inl (cI, 32, .inl v_starts_6)), (h_durations, .inl (cI, 32, .inl v_durations_7)), (h_p1, .inr (9, [.int v_p1_segmentCount, .int v_p1_wordCount, .ref h_p1_order, .ref h_p1_durations, .ref h_p1_pauses, .ref h_p1_sizes, .ref h_p1_words, .ref h_p1_names])), (h_p1_order, .inl (cI, 32, .inl v_p1_order)), (h_p1_durations, .inl (cI, 32, .inl v_p1_durations))] := by
    intro v_exists_2 v_segmentCount_3 e_15 e_16 e_17 e_18 hx0 N
    induction N with
    | zero => intro l2_1 v_total_4 v_rows_5 v_starts_6 v_durations_7 hw; exact absurd hw (wh_0 _ _ _)
    | succ N ih =>
      intro l2_1 v_total_4 v_rows_5 v_starts_6 v_durations_7 hw
      have hF : S_X2_takeVersion_20 v_exists_2 v_segmentCount_3 v_p1_order v_p1_durations (wh (fun k q => S_X2_takeVersion_20 v_exists_2 v_segmentCount_3 v_p1_order v_p1_durations k q.1 q.2.1 q.2.2.1 q.2.2.2.1 q.2.2.2.2) N) l2_1 v_total_4 v_rows_5 v_starts_6 v_durations_7 = some (e_15, e_16, e_17, e_18) := hw
      unfold S_X2_takeVersion_20 at hF
      refine gq_iload_n hC 2 dX2_takeVersion_20 rfl rfl ?_
      refine gq_aload_n hC 0 dX2_takeVersion_21 rfl rfl ?_
      refine gq_get hC (kf := 1) 0 hin_X2 rfl rfl (by decide) hw_25 rfl dX2_takeVersion_22 ?_
      refine gq_icmp_ge hC 82 dX2_takeVersion_25 (by decide) (fun hc_14 => ?_) (fun hc_14 => ?_)
      · have hF := (if_pos hc_14).symm.trans hF
        refine gq_sub [] [] rfl ?_
        cases hF
        exact hx0
      · have hF := (if_neg hc_14).symm.trans hF
        refine gq_aload_n hC 0 dX2_takeVersion_28 rfl rfl ?_
        refine gq_get hC (kf := 3) 0 hin_X2 rfl rfl (by decide) hw_9 rfl dX2_takeVersion_29 ?_
        refine gq_iload_n hC 2 dX2_takeVersion_32 rfl rfl ?_
        refine gq_aload_n hC 1 dX2_takeVersion_33 rfl rfl ?_
        refine gq_get hC (kf := 2) 4 hin_X9 rfl rfl (by decide) hw_41 rfl dX2_takeVersion_34 ?_
        refine gq_iload_n hC 2 dX2_takeVersion_37 rfl rfl ?_
        obtain ⟨hi_8, hF⟩ := gi_e hF
        refine gq_iald hC 5 0 rfl rfl hi_8 dX2_takeVersion_38 ?_
        obtain ⟨hi_9, hF⟩ := gi_e hF
        refine gq_iast hC 1 0 [(h_t_, .inr (2, [.int v_exists_2, .int v_segmentCount_3, .int v_total_4, .ref h_rows, .ref h_starts, .ref h_durations])), (h_rows, .inl (cI, 32, .inl (upd v_rows_5 l2_1.toNatClampNeg (v_p1_order l2_1.toNatClampNeg)))), (h_starts, .inl (cI, 32, .inl v_starts_6)), (h_durations, .inl (cI, 32, .inl v_durations_7)), (h_p1, .inr (9, [.int v_p1_segmentCount, .int v_p1_wordCount, .ref h_p1_order, .ref h_p1_durations, .ref h_p1_pauses, .ref h_p1_sizes, .ref h_p1_words, .ref h_p1_names])), (h_p1_order, .inl (cI, 32, .inl v_p1_order)), (h_p1_durations, .inl (cI, 32, .inl v_p1_durations))] rfl rfl hi_9 dX2_takeVersion_39 rfl ?_
        refine gq_aload_n hC 0 dX2_takeVersion_40 rfl rfl ?_
        refine gq_get hC (kf := 4) 0 hin_X2 rfl rfl (by decide) hw_15 rfl dX2_takeVersion_41 ?_
        refine gq_iload_n hC 2 dX2_takeVersion_44 rfl rfl ?_
        refine gq_aload_n hC 0 dX2_takeVersion_45 rfl rfl ?_
        refine gq_get hC (kf := 2) 0 hin_X2 rfl rfl (by decide) hw_29 rfl dX2_takeVersion_46 ?_
        obtain ⟨hi_10, hF⟩ := gi_e hF
        refine gq_iast hC 2 0 [(h_t_, .inr (2, [.int v_exists_2, .int v_segmentCount_3, .int v_total_4, .ref h_rows, .ref h_starts, .ref h_durations])), (h_rows, .inl (cI, 32, .inl (upd v_rows_5 l2_1.toNatClampNeg (v_p1_order l2_1.toNatClampNeg)))), (h_starts, .inl (cI, 32, .inl (upd v_starts_6 l2_1.toNatClampNeg v_total_4))), (h_durations, .inl (cI, 32, .inl v_durations_7)), (h_p1, .inr (9, [.int v_p1_segmentCount, .int v_p1_wordCount, .ref h_p1_order, .ref h_p1_durations, .ref h_p1_pauses, .ref h_p1_sizes, .ref h_p1_words, .ref h_p1_names])), (h_p1_order, .inl (cI, 32, .inl v_p1_order)), (h_p1_durations, .inl (cI, 32, .inl v_p1_durations))] rfl rfl hi_10 dX2_takeVersion_49 rfl ?_
        refine gq_aload_n hC 0 dX2_takeVersion_50 rfl rfl ?_
        refine gq_get hC (kf := 5) 0 hin_X2 rfl rfl (by decide) hw_18 rfl dX2_takeVersion_51 ?_
        refine gq_iload_n hC 2 dX2_takeVersion_54 rfl rfl ?_
        refine gq_aload_n hC 1 dX2_takeVersion_55 rfl rfl ?_
        refine gq_iload_n hC 2 dX2_takeVersion_56 rfl rfl ?_
        obtain ⟨r_11, hc_, hF⟩ := ob1_e hF
        refine gq_callVi hC [4, 5, 6] [(h_t_, .inr (2, [.int v_exists_2, .int v_segmentCount_3, .int v_total_4, .ref h_rows, .ref h_starts, .ref h_durations])), (h_rows, .inl (cI, 32, .inl (upd v_rows_5 l2_1.toNatClampNeg (v_p1_order l2_1.toNatClampNeg)))), (h_starts, .inl (cI, 32, .inl (upd v_starts_6 l2_1.toNatClampNeg v_total_4))), (h_durations, .inl (cI, 32, .inl v_durations_7)), (h_p1, .inr (9, [.int v_p1_segmentCount, .int v_p1_wordCount, .ref h_p1_order, .ref h_p1_durations, .ref h_p1_pauses, .ref h_p1_sizes, .ref h_p1_words, .ref h_p1_names])), (h_p1_order, .inl (cI, 32, .inl v_p1_order)), (h_p1_durations, .inl (cI, 32, .inl v_p1_durations))] [.int l2_1] [.int l2_1, .ref h_durations] (k_X9_durationOf l D cI cJ cZ cO z h_p1 h_p1_order h_p1_durations h_p1_pauses h_p1_sizes h_p1_words h_p1_names l2_1 v_p1_segmentCount v_p1_wordCount v_p1_order v_p1_durations r_11 hc_) gX2_takeVersion_X9_durationOf rfl ⟨rfl, rfl⟩ hy_X9_durationOf ⟨Nat.le_of_ble_eq_true rfl, Nat.le_of_ble_eq_true rfl⟩ rfl rfl rfl (q0 := 0) rfl rfl rfl (Nat.le_of_ble_eq_true rfl) rfl dX2_takeVersion_57 rfl rfl ?_
        obtain ⟨hi_12, hF⟩ := gi_e hF
        refine gq_iast hC 3 0 [(h_t_, .inr (2, [.int v_exists_2, .int v_segmentCount_3, .int v_total_4, .ref h_rows, .ref h_starts, .ref h_durations])), (h_rows, .inl (cI, 32, .inl (upd v_rows_5 l2_1.toNatClampNeg (v_p1_order l2_1.toNatClampNeg)))), (h_starts, .inl (cI, 32, .inl (upd v_starts_6 l2_1.toNatClampNeg v_total_4))), (h_durations, .inl (cI, 32, .inl (upd v_durations_7 l2_1.toNatClampNeg r_11))), (h_p1, .inr (9, [.int v_p1_segmentCount, .int v_p1_wordCount, .ref h_p1_order, .ref h_p1_durations, .ref h_p1_pauses, .ref h_p1_sizes, .ref h_p1_words, .ref h_p1_names])), (h_p1_order, .inl (cI, 32, .inl v_p1_order)), (h_p1_durations, .inl (cI, 32, .inl v_p1_durations))] rfl rfl hi_12 dX2_takeVersion_60 rfl ?_
        refine gq_aload_n hC 0 dX2_takeVersion_61 rfl rfl ?_
        refine gq_dup hC dX2_takeVersion_62 rfl ?_
        refine gq_get hC (kf := 2) 0 hin_X2 rfl rfl (by decide) hw_29 rfl dX2_takeVersion_63 ?_
        refine gq_aload_n hC 0 dX2_takeVersion_66 rfl rfl ?_
        refine gq_get hC (kf := 5) 0 hin_X2 rfl rfl (by decide) hw_18 rfl dX2_takeVersion_67 ?_
        refine gq_iload_n hC 2 dX2_takeVersion_70 rfl rfl ?_
        obtain ⟨hi_13, hF⟩ := gi_e hF
        refine gq_iald hC 3 0 rfl rfl hi_13 dX2_takeVersion_71 ?_
        refine gq_iadd hC dX2_takeVersion_72 ?_
        refine gq_put1 hC (kf := 2) 0 [(h_t_, .inr (2, [.int v_exists_2, .int v_segmentCount_3, .int (v_total_4 + ((upd v_durations_7 l2_1.toNatClampNeg r_11) l2_1.toNatClampNeg)), .ref h_rows, .ref h_starts, .ref h_durations])), (h_rows, .inl (cI, 32, .inl (upd v_rows_5 l2_1.toNatClampNeg (v_p1_order l2_1.toNatClampNeg)))), (h_starts, .inl (cI, 32, .inl (upd v_starts_6 l2_1.toNatClampNeg v_total_4))), (h_durations, .inl (cI, 32, .inl (upd v_durations_7 l2_1.toNatClampNeg r_11))), (h_p1, .inr (9, [.int v_p1_segmentCount, .int v_p1_wordCount, .ref h_p1_order, .ref h_p1_durations, .ref h_p1_pauses, .ref h_p1_sizes, .ref h_p1_words, .ref h_p1_names])), (h_p1_order, .inl (cI, 32, .inl v_p1_order)), (h_p1_durations, .inl (cI, 32, .inl v_p1_durations))] tyX2 tyX2_ok nmX2 hin_X2 rfl rfl (by decide) hw_29 rfl rfl rfl (Nat.le_of_ble_eq_true rfl) dX2_takeVersion_73 rfl ?_
        refine gq_iinc hC 2 (l2_1 + (1 : Int32)) [(2, .int (l2_1 + (1 : Int32))), (0, .ref h_t_), (1, .ref h_p1)] dX2_takeVersion_76 rfl rfl (by decide) rfl ?_
        refine gq_goto hC 20 dX2_takeVersion_79 (by decide) ?_
        refine gq_sub [(0, .ref h_t_), (1, .ref h_p1), (2, .int (l2_1 + (1 : Int32)))] [1, 2, 0] rfl ?_
        exact ih (l2_1 + (1 : Int32)) (v_total_4 + ((upd v_durations_7 l2_1.toNatClampNeg r_11) l2_1.toNatClampNeg)) (upd v_rows_5 l2_1.toNatClampNeg (v_p1_order l2_1.toNatClampNeg)) (upd v_starts_6 l2_1.toNatClampNeg v_total_4) (upd v_durations_7 l2_1.toNatClampNeg r_11) hF
  refine gq_sub [(0, .ref h_t_), (1, .ref h_p1), (2, .int (0 : Int32))] [1, 2, 0] rfl ?_
  obtain ⟨e_19, e_20, e_21, e_22, hw_, hF⟩ := ob4_e hF
  refine lp20 (1 : Int32) v_p1_segmentCount e_19 e_20 e_21 e_22 ?_ wF (0 : Int32) (0 : Int32) v_rows v_starts v_durations hw_
  cases hF
  rw [hQ]
  exact gq_vret hC dX2_takeVersion_82
theorem hy_X2_carry : yX2_carry.cls = RX2 ∧ yX2_carry.cls ≠ "java/lang/invoke/MethodHandle" ∧ yX2_carry.cls ≠ "java/lang/invoke/VarHandle" ∧ (parseMethodDescriptor yX2_carry.desc).map (fun d => d.parameters.length) = some 2 := by decide +kernel
set_option maxRecDepth 20000 in
set_option maxHeartbeats 4000000 in
theorem k_X2_carry (l : Launch) (D : va_G) (cI cJ cZ cO : ClassId) (z : Nat → Nat)   (h_t_ : Nat) (h_rows : Nat) (h_starts : Nat) (h_durations : Nat) (h_p2 : Nat) (h_p2_order : Nat) (h_p2_durations : Nat) (h_p2_pauses : Nat) (h_p2_sizes : Nat) (h_p2_words : Nat) (h_p2_names : Nat) (x1 : Int32) (v_exists : Int32) (v_segmentCount : Int32) (v_total : Int32) (v_rows : Nat → Int32) (v_starts : Nat → Int32) (v_durations : Nat → Int32) (v_p2_segmentCount : Int32) (v_p2_wordCount : Int32) (v_p2_order : Nat → Int32) (v_p2_durations : Nat → Int32) (r_ : Int32) (hF : F_X2_carry x1 v_segmentCount v_rows v_starts v_durations v_p2_segmentCount v_p2_order v_p2_durations = some r_) : Mi l yX2_carry wsX2_carry (rmD 2) D (gq_ty cI cJ cZ cO) z [.ref h_t_, .int x1, .ref h_p2] [(h_t_, .inr (2, [.int v_exists, .int v_segmentCount, .int v_total, .ref h_rows, .ref h_starts, .ref h_durations])), (h_rows, .inl (cI, 32, .inl v_rows)), (h_starts, .inl (cI, 32, .inl v_starts)), (h_durations, .inl (cI, 32, .inl v_durations)), (h_p2, .inr (9, [.int v_p2_segmentCount, .int v_p2_wordCount, .ref h_p2_order, .ref h_p2_durations, .ref h_p2_pauses, .ref h_p2_sizes, .ref h_p2_words, .ref h_p2_names])), (h_p2_order, .inl (cI, 32, .inl v_p2_order)), (h_p2_durations, .inl (cI, 32, .inl v_p2_durations))] r_ [(h_t_, .inr (2, [.int v_exists, .int v_segmentCount, .int v_total, .ref h_rows, .ref h_starts, .ref h_durations])), (h_rows, .inl (cI, 32, .inl v_rows)), (h_starts, .inl (cI, 32, .inl v_starts)), (h_durations, .inl (cI, 32, .inl v_durations)), (h_p2, .inr (9, [.int v_p2_segmentCount, .int v_p2_wordCount, .ref h_p2_order, .ref h_p2_durations, .ref h_p2_pauses, .ref h_p2_sizes, .ref h_p2_words, .ref h_p2_names])), (h_p2_order, .inl (cI, 32, .inl v_p2_order)), (h_p2_durations, .inl (cI, 32, .inl v_p2_durations))] 0 0 := by
  refine Mi.of (cc := cX2_carry) (maxL := 6) (by decide) rfl (Nat.le_of_ble_eq_true rfl) ⟨Nat.le_refl 0, Nat.le_refl 0⟩ ?_
  intro p e s m args below meth c A hC ha
  have hin_X2 : ∀ w ∈ wsX20, w ∈ wsX2_carry := by decide +kernel
  have hin_X9 : ∀ w ∈ wsX90, w ∈ wsX2_carry := by decide +kernel
  have hw_9 : Cond.fieldLink RX2 9 (TX2 3).1 (TX2 3).2.1 (TX2 3).2.2.1 ∈ wsX2_carry := by decide +kernel
  have hw_15 : Cond.fieldLink RX2 15 (TX2 4).1 (TX2 4).2.1 (TX2 4).2.2.1 ∈ wsX2_carry := by decide +kernel
  have hw_18 : Cond.fieldLink RX2 18 (TX2 5).1 (TX2 5).2.1 (TX2 5).2.2.1 ∈ wsX2_carry := by decide +kernel
  have hw_25 : Cond.fieldLink RX2 25 (TX2 1).1 (TX2 1).2.1 (TX2 1).2.2.1 ∈ wsX2_carry := by decide +kernel
  have hw_38 : Cond.fieldLink RX2 38 (TX9 0).1 (TX9 0).2.1 (TX9 0).2.2.1 ∈ wsX2_carry := by decide +kernel
  obtain ⟨Q, hQ⟩ : ∃ Q, Q = gq_Qi below D A args s r_ [(h_t_, .inr (2, [.int v_exists, .int v_segmentCount, .int v_total, .ref h_rows, .ref h_starts, .ref h_durations])), (h_rows, .inl (cI, 32, .inl v_rows)), (h_starts, .inl (cI, 32, .inl v_starts)), (h_durations, .inl (cI, 32, .inl v_durations)), (h_p2, .inr (9, [.int v_p2_segmentCount, .int v_p2_wordCount, .ref h_p2_order, .ref h_p2_durations, .ref h_p2_pauses, .ref h_p2_sizes, .ref h_p2_words, .ref h_p2_names])), (h_p2_order, .inl (cI, 32, .inl v_p2_order)), (h_p2_durations, .inl (cI, 32, .inl v_p2_durations))] 0 0 := ⟨_, rfl⟩
  rw [← hQ]
  refine gq_loc [(0, .ref h_t_), (1, .int x1), (2, .ref h_p2)] rfl ?_
  unfold F_X2_carry at hF
  refine gq_iconst hC (0 : Int32) dX2_carry_0 (by decide) ?_
  refine gq_istore_n hC [(3, .int (0 : Int32)), (0, .ref h_t_), (1, .int x1), (2, .ref h_p2)] dX2_carry_1 rfl (by decide) rfl ?_
  have lp2 : ∀ (out_ : (Int32 × Int32) ⊕ (Unit)), (∀ (e_9 : Int32) (e_10 : Int32), out_ = .inl (e_9, e_10) → Gx p l e (rmD 2) s m args below meth c D A 6 Q 0 0 48 [(0, .ref h_t_), (1, .int x1), (2, .ref h_p2), (3, .int e_9), (4, .int e_10)] [] [(h_t_, .inr (2, [.int v_exists, .int v_segmentCount, .int v_total, .ref h_rows, .ref h_starts, .ref h_durations])), (h_rows, .inl (cI, 32, .inl v_rows)), (h_starts, .inl (cI, 32, .inl v_starts)), (h_durations, .inl (cI, 32, .inl v_durations)), (h_p2, .inr (9, [.int v_p2_segmentCount, .int v_p2_wordCount, .ref h_p2_order, .ref h_p2_durations, .ref h_p2_pauses, .ref h_p2_sizes, .ref h_p2_words, .ref h_p2_names])), (h_p2_order, .inl (cI, 32, .inl v_p2_order)), (h_p2_durations, .inl (cI, 32, .inl v_p2_durations))]) → (out_ = .inr () → Gx p l e (rmD 2) s m args below meth c D A 6 Q 0 0 87 [(2, .ref h_p2)] [] [(h_t_, .inr (2, [.int v_exists, .int v_segmentCount, .int v_total, .ref h_rows, .ref h_starts, .ref h_durations])), (h_rows, .inl (cI, 32, .inl v_rows)), (h_starts, .inl (cI, 32, .inl v_starts)), (h_durations, .inl (cI, 32, .inl v_durations)), (h_p2, .inr (9, [.int v_p2_segmentCount, .int v_p2_wordCount, .ref h_p2_order, .ref h_p2_durations, .ref h_p2_pauses, .ref h_p2_sizes, .ref h_p2_words, .ref h_p2_names])), (h_p2_order, .inl (cI, 32, .inl v_p2_order)), (h_p2_durations, .inl (cI, 32, .inl v_p2_durations))]) → ∀ (N : Nat) (l3_1 : Int32), wh (fun k q => S_X2_carry_2 x1 v_segmentCount v_rows v_starts v_durations v_p2_segmentCount v_p2_order v_p2_durations k q) N l3_1 = some out_ → Gx p l e (rmD 2) s m args below meth c D A 6 Q 0 0 2 [(0, .ref h_t_), (1, .int x1), (2, .ref h_p2), (3, .int l3_1)] [] [(h_t_, .inr (2, [.int v_exists, .int v_segmentCount, .int v_total, .ref h_rows, .ref h_starts, .ref h_durations])), (h_rows, .inl (cI, 32, .inl v_rows)), (h_starts, .inl (cI, 32, .inl v_starts)), (h_durations, .inl (cI, 32, .inl v_durations)), (h_p2, .inr (9, [.int v_p2_segmentCount, .int v_p2_wordCount, .ref h_p2_order, .ref h_p2_durations, .ref h_p2_pauses, .ref h_p2_sizes, .ref h_p2_words, .ref h_p2_names])), (h_p2_order, .inl (cI, 32, .inl v_p2_order)), (h_p2_durations, .inl (cI, 32, .inl v_p2_durations))] := by
    intro out_ hx0 hx1 N
    induction N with
    | zero => intro l3_1 hw; exact absurd hw (wh_0 _ _ _)
    | succ N ih =>
      intro l3_1 hw
      have hF : S_X2_carry_2 x1 v_segmentCount v_rows v_starts v_durations v_p2_segmentCount v_p2_order v_p2_durations (wh (fun k q => S_X2_carry_2 x1 v_segmentCount v_rows v_starts v_durations v_p2_segmentCount v_p2_order v_p2_durations k q) N) l3_1 = some out_ := hw
      unfold S_X2_carry_2 at hF
      refine gq_iload_n hC 3 dX2_carry_2 rfl rfl ?_
      refine gq_aload_n hC 0 dX2_carry_3 rfl rfl ?_
      refine gq_get hC (kf := 1) 0 hin_X2 rfl rfl (by decide) hw_25 rfl dX2_carry_4 ?_
      refine gq_icmp_ge hC 87 dX2_carry_7 (by decide) (fun hc_8 => ?_) (fun hc_8 => ?_)
      · have hF := (if_pos hc_8).symm.trans hF
        refine gq_sub [(2, .ref h_p2)] [2] rfl ?_
        exact hx1  (Option.some.inj hF).symm
      · have hF := (if_neg hc_8).symm.trans hF
        refine gq_iload_n hC 1 dX2_carry_10 rfl rfl ?_
        refine gq_aload_n hC 0 dX2_carry_11 rfl rfl ?_
        refine gq_get hC (kf := 4) 0 hin_X2 rfl rfl (by decide) hw_15 rfl dX2_carry_12 ?_
        refine gq_iload_n hC 3 dX2_carry_15 rfl rfl ?_
        obtain ⟨hi_2, hF⟩ := gi_e hF
        refine gq_iald hC 2 0 rfl rfl hi_2 dX2_carry_16 ?_
        refine gq_aload_n hC 0 dX2_carry_17 rfl rfl ?_
        refine gq_get hC (kf := 5) 0 hin_X2 rfl rfl (by decide) hw_18 rfl dX2_carry_18 ?_
        refine gq_iload_n hC 3 dX2_carry_21 rfl rfl ?_
        obtain ⟨hi_3, hF⟩ := gi_e hF
        refine gq_iald hC 3 0 rfl rfl hi_3 dX2_carry_22 ?_
        refine gq_iadd hC dX2_carry_23 ?_
        refine gq_icmp_lt hC 30 dX2_carry_24 (by decide) (fun hc_7 => ?_) (fun hc_7 => ?_)
        · have hF := (if_pos hc_7).symm.trans hF
          refine gq_aload_n hC 2 dX2_carry_30 rfl rfl ?_
          refine gq_aload_n hC 0 dX2_carry_31 rfl rfl ?_
          refine gq_get hC (kf := 3) 0 hin_X2 rfl rfl (by decide) hw_9 rfl dX2_carry_32 ?_
          refine gq_iload_n hC 3 dX2_carry_35 rfl rfl ?_
          obtain ⟨hi_4, hF⟩ := gi_e hF
          refine gq_iald hC 1 0 rfl rfl hi_4 dX2_carry_36 ?_
          obtain ⟨r_5, hc_, hF⟩ := ob1_e hF
          refine gq_callVi hC [4, 5] [(h_t_, .inr (2, [.int v_exists, .int v_segmentCount, .int v_total, .ref h_rows, .ref h_starts, .ref h_durations])), (h_rows, .inl (cI, 32, .inl v_rows)), (h_starts, .inl (cI, 32, .inl v_starts)), (h_durations, .inl (cI, 32, .inl v_durations)), (h_p2, .inr (9, [.int v_p2_segmentCount, .int v_p2_wordCount, .ref h_p2_order, .ref h_p2_durations, .ref h_p2_pauses, .ref h_p2_sizes, .ref h_p2_words, .ref h_p2_names])), (h_p2_order, .inl (cI, 32, .inl v_p2_order)), (h_p2_durations, .inl (cI, 32, .inl v_p2_durations))] [.int (v_rows l3_1.toNatClampNeg)] [] (k_X9_segmentOfRow l D cI cJ cZ cO z h_p2 h_p2_order h_p2_durations h_p2_pauses h_p2_sizes h_p2_words h_p2_names (v_rows l3_1.toNatClampNeg) v_p2_segmentCount v_p2_wordCount v_p2_order r_5 hc_) gX2_carry_X9_segmentOfRow rfl ⟨rfl, rfl⟩ hy_X9_segmentOfRow ⟨Nat.le_of_ble_eq_true rfl, Nat.le_of_ble_eq_true rfl⟩ rfl rfl rfl (q0 := 0) rfl rfl rfl (Nat.le_of_ble_eq_true rfl) rfl dX2_carry_37 rfl rfl ?_
          refine gq_istore hC [(4, .int r_5), (0, .ref h_t_), (1, .int x1), (2, .ref h_p2), (3, .int l3_1)] dX2_carry_40 (by decide) rfl ?_
          refine gq_iload hC 0 dX2_carry_42 rfl ?_
          refine gq_iconst hC (-1 : Int32) dX2_carry_44 (by decide) ?_
          refine gq_icmp_eq hC 81 dX2_carry_45 (by decide) (fun hc_6 => ?_) (fun hc_6 => ?_)
          · have hF := (if_pos hc_6).symm.trans hF
            refine gq_iinc hC 4 (l3_1 + (1 : Int32)) [(3, .int (l3_1 + (1 : Int32))), (4, .int r_5), (0, .ref h_t_), (1, .int x1), (2, .ref h_p2)] dX2_carry_81 rfl rfl (by decide) rfl ?_
            refine gq_goto hC 2 dX2_carry_84 (by decide) ?_
            refine gq_sub [(0, .ref h_t_), (1, .int x1), (2, .ref h_p2), (3, .int (l3_1 + (1 : Int32)))] [2, 3, 4, 0] rfl ?_
            exact ih (l3_1 + (1 : Int32)) hF
          · have hF := (if_neg hc_6).symm.trans hF
            refine gq_sub [(0, .ref h_t_), (1, .int x1), (2, .ref h_p2), (3, .int l3_1), (4, .int r_5)] [1, 2, 3, 4, 0] rfl ?_
            exact hx0 _ _ (Option.some.inj hF).symm
        · have hF := (if_neg hc_7).symm.trans hF
          refine gq_goto hC 81 dX2_carry_27 (by decide) ?_
          refine gq_iinc hC 3 (l3_1 + (1 : Int32)) [(3, .int (l3_1 + (1 : Int32))), (0, .ref h_t_), (1, .int x1), (2, .ref h_p2)] dX2_carry_81 rfl rfl (by decide) rfl ?_
          refine gq_goto hC 2 dX2_carry_84 (by decide) ?_
          refine gq_sub [(0, .ref h_t_), (1, .int x1), (2, .ref h_p2), (3, .int (l3_1 + (1 : Int32)))] [1, 2, 3, 0] rfl ?_
          exact ih (l3_1 + (1 : Int32)) hF
  refine gq_sub [(0, .ref h_t_), (1, .int x1), (2, .ref h_p2), (3, .int (0 : Int32))] [1, 2, 3, 0] rfl ?_
  obtain ⟨o_, hw_, hF⟩ := ob1_e hF
  refine lp2  o_ ?_ ?_ wF (0 : Int32) hw_
  · intro e_11 e_12 ho_16
    subst ho_16
    have hF : (gi e_11 32 (ob1 (F_X9_startOf e_12 v_p2_order v_p2_durations) (fun r_14 => ob1 (F_X9_durationOf e_12 v_p2_order v_p2_durations) (fun r_15 => some (r_14 + (if r_15 < (if (0 : Int32) < (x1 - (v_starts e_11.toNatClampNeg)) then (x1 - (v_starts e_11.toNatClampNeg)) else (0 : Int32)) then r_15 else (if (0 : Int32) < (x1 - (v_starts e_11.toNatClampNeg)) then (x1 - (v_starts e_11.toNatClampNeg)) else (0 : Int32)))))))) = some _ := hF
    refine gq_iconst hC (0 : Int32) dX2_carry_48 (by decide) ?_
    refine gq_iload_n hC 1 dX2_carry_49 rfl rfl ?_
    refine gq_aload_n hC 0 dX2_carry_50 rfl rfl ?_
    refine gq_get hC (kf := 4) 0 hin_X2 rfl rfl (by decide) hw_15 rfl dX2_carry_51 ?_
    refine gq_iload_n hC 3 dX2_carry_54 rfl rfl ?_
    obtain ⟨hi_13, hF⟩ := gi_e hF
    refine gq_iald hC 2 0 rfl rfl hi_13 dX2_carry_55 ?_
    refine gq_isub hC dX2_carry_56 ?_
    refine gq_mmax hC ⟨by decide +kernel, by decide +kernel, by decide +kernel, by decide +kernel⟩ ⟨Nat.le_of_ble_eq_true rfl, Nat.le_of_ble_eq_true rfl⟩ dX2_carry_57 ?_
    refine gq_istore hC [(5, .int (if (0 : Int32) < (x1 - (v_starts e_11.toNatClampNeg)) then (x1 - (v_starts e_11.toNatClampNeg)) else (0 : Int32))), (0, .ref h_t_), (1, .int x1), (2, .ref h_p2), (3, .int e_11), (4, .int e_12)] dX2_carry_60 (by decide) rfl ?_
    refine gq_aload_n hC 3 dX2_carry_62 rfl rfl ?_
    refine gq_iload hC 5 dX2_carry_63 rfl ?_
    obtain ⟨r_14, hc_, hF⟩ := ob1_e hF
    refine gq_callVi hC [4, 5, 6] [(h_t_, .inr (2, [.int v_exists, .int v_segmentCount, .int v_total, .ref h_rows, .ref h_starts, .ref h_durations])), (h_rows, .inl (cI, 32, .inl v_rows)), (h_starts, .inl (cI, 32, .inl v_starts)), (h_durations, .inl (cI, 32, .inl v_durations)), (h_p2, .inr (9, [.int v_p2_segmentCount, .int v_p2_wordCount, .ref h_p2_order, .ref h_p2_durations, .ref h_p2_pauses, .ref h_p2_sizes, .ref h_p2_words, .ref h_p2_names])), (h_p2_order, .inl (cI, 32, .inl v_p2_order)), (h_p2_durations, .inl (cI, 32, .inl v_p2_durations))] [.int e_12] [] (k_X9_startOf l D cI cJ cZ cO z h_p2 h_p2_order h_p2_durations h_p2_pauses h_p2_sizes h_p2_words h_p2_names e_12 v_p2_segmentCount v_p2_wordCount v_p2_order v_p2_durations r_14 hc_) gX2_carry_X9_startOf rfl ⟨rfl, rfl⟩ hy_X9_startOf ⟨Nat.le_of_ble_eq_true rfl, Nat.le_of_ble_eq_true rfl⟩ rfl rfl rfl (q0 := 0) rfl rfl rfl (Nat.le_of_ble_eq_true rfl) rfl dX2_carry_65 rfl rfl ?_
    refine gq_iload hC 0 dX2_carry_68 rfl ?_
    refine gq_aload_n hC 3 dX2_carry_70 rfl rfl ?_
    refine gq_iload hC 5 dX2_carry_71 rfl ?_
    obtain ⟨r_15, hc_, hF⟩ := ob1_e hF
    refine gq_callVi hC [4, 5, 6] [(h_t_, .inr (2, [.int v_exists, .int v_segmentCount, .int v_total, .ref h_rows, .ref h_starts, .ref h_durations])), (h_rows, .inl (cI, 32, .inl v_rows)), (h_starts, .inl (cI, 32, .inl v_starts)), (h_durations, .inl (cI, 32, .inl v_durations)), (h_p2, .inr (9, [.int v_p2_segmentCount, .int v_p2_wordCount, .ref h_p2_order, .ref h_p2_durations, .ref h_p2_pauses, .ref h_p2_sizes, .ref h_p2_words, .ref h_p2_names])), (h_p2_order, .inl (cI, 32, .inl v_p2_order)), (h_p2_durations, .inl (cI, 32, .inl v_p2_durations))] [.int e_12] [.int (if (0 : Int32) < (x1 - (v_starts e_11.toNatClampNeg)) then (x1 - (v_starts e_11.toNatClampNeg)) else (0 : Int32)), .int r_14] (k_X9_durationOf l D cI cJ cZ cO z h_p2 h_p2_order h_p2_durations h_p2_pauses h_p2_sizes h_p2_words h_p2_names e_12 v_p2_segmentCount v_p2_wordCount v_p2_order v_p2_durations r_15 hc_) gX2_carry_X9_durationOf rfl ⟨rfl, rfl⟩ hy_X9_durationOf ⟨Nat.le_of_ble_eq_true rfl, Nat.le_of_ble_eq_true rfl⟩ rfl rfl rfl (q0 := 0) rfl rfl rfl (Nat.le_of_ble_eq_true rfl) rfl dX2_carry_73 rfl rfl ?_
    refine gq_mmin hC ⟨by decide +kernel, by decide +kernel, by decide +kernel, by decide +kernel⟩ ⟨Nat.le_of_ble_eq_true rfl, Nat.le_of_ble_eq_true rfl⟩ dX2_carry_76 ?_
    refine gq_iadd hC dX2_carry_79 ?_
    cases hF
    rw [hQ]
    exact gq_iret hC rfl dX2_carry_80
  · intro  ho_18
    subst ho_18
    have hF : (ob1 (F_X9_startOf v_p2_segmentCount v_p2_order v_p2_durations) (fun r_17 => some r_17)) = some _ := hF
    refine gq_aload_n hC 0 dX2_carry_87 rfl rfl ?_
    refine gq_aload_n hC 0 dX2_carry_88 rfl rfl ?_
    refine gq_get hC (kf := 0) 4 hin_X9 rfl rfl (by decide) hw_38 rfl dX2_carry_89 ?_
    obtain ⟨r_17, hc_, hF⟩ := ob1_e hF
    refine gq_callVi hC [4, 5, 6] [(h_t_, .inr (2, [.int v_exists, .int v_segmentCount, .int v_total, .ref h_rows, .ref h_starts, .ref h_durations])), (h_rows, .inl (cI, 32, .inl v_rows)), (h_starts, .inl (cI, 32, .inl v_starts)), (h_durations, .inl (cI, 32, .inl v_durations)), (h_p2, .inr (9, [.int v_p2_segmentCount, .int v_p2_wordCount, .ref h_p2_order, .ref h_p2_durations, .ref h_p2_pauses, .ref h_p2_sizes, .ref h_p2_words, .ref h_p2_names])), (h_p2_order, .inl (cI, 32, .inl v_p2_order)), (h_p2_durations, .inl (cI, 32, .inl v_p2_durations))] [.int v_p2_segmentCount] [] (k_X9_startOf l D cI cJ cZ cO z h_p2 h_p2_order h_p2_durations h_p2_pauses h_p2_sizes h_p2_words h_p2_names v_p2_segmentCount v_p2_segmentCount v_p2_wordCount v_p2_order v_p2_durations r_17 hc_) gX2_carry_X9_startOf rfl ⟨rfl, rfl⟩ hy_X9_startOf ⟨Nat.le_of_ble_eq_true rfl, Nat.le_of_ble_eq_true rfl⟩ rfl rfl rfl (q0 := 0) rfl rfl rfl (Nat.le_of_ble_eq_true rfl) rfl dX2_carry_92 rfl rfl ?_
    cases hF
    rw [hQ]
    exact gq_iret hC rfl dX2_carry_95
theorem hy_X3_clear : yX3_clear.cls = RX3 ∧ yX3_clear.cls ≠ "java/lang/invoke/MethodHandle" ∧ yX3_clear.cls ≠ "java/lang/invoke/VarHandle" ∧ (parseMethodDescriptor yX3_clear.desc).map (fun d => d.parameters.length) = some 0 := by decide +kernel
set_option maxRecDepth 20000 in
set_option maxHeartbeats 4000000 in
theorem k_X3_clear (l : Launch) (D : va_G) (cI cJ cZ cO : ClassId) (z : Nat → Nat)   (h_t_ : Nat) (h_bytes : Nat)  (v_length : Int32) (w_length : Int32) (hF : F_X3_clear v_length = some w_length) : Mv l yX3_clear wsX3_clear (rmD 0) D (gq_ty cI cJ cZ cO) z [.ref h_t_] [(h_t_, .inr (3, [.int v_length, .ref h_bytes]))] [(h_t_, .inr (3, [.int w_length, .ref h_bytes]))] 0 0 := by
  refine Mv.of (cc := cX3_clear) (maxL := 1) (by decide) rfl (Nat.le_of_ble_eq_true rfl) ⟨Nat.le_refl 0, Nat.le_refl 0⟩ ?_
  intro p e s m args below meth c A hC ha
  have hin_X3 : ∀ w ∈ wsX30, w ∈ wsX3_clear := by decide +kernel
  have hw_15 : Cond.fieldLink RX3 15 (TX3 0).1 (TX3 0).2.1 (TX3 0).2.2.1 ∈ wsX3_clear := by decide +kernel
  obtain ⟨Q, hQ⟩ : ∃ Q, Q = gq_Qv below D A args s [(h_t_, .inr (3, [.int w_length, .ref h_bytes]))] 0 0 := ⟨_, rfl⟩
  rw [← hQ]
  refine gq_loc [(0, .ref h_t_)] rfl ?_
  unfold F_X3_clear at hF
  refine gq_aload_n hC 0 dX3_clear_0 rfl rfl ?_
  refine gq_iconst hC (0 : Int32) dX3_clear_1 (by decide) ?_
  refine gq_put1 hC (kf := 0) 0 [(h_t_, .inr (3, [.int (0 : Int32), .ref h_bytes]))] tyX3 tyX3_ok nmX3 hin_X3 rfl rfl (by decide) hw_15 rfl rfl rfl (Nat.le_of_ble_eq_true rfl) dX3_clear_2 rfl ?_
  cases hF
  rw [hQ]
  exact gq_vret hC dX3_clear_5
theorem hy_X3_put : yX3_put.cls = RX3 ∧ yX3_put.cls ≠ "java/lang/invoke/MethodHandle" ∧ yX3_put.cls ≠ "java/lang/invoke/VarHandle" ∧ (parseMethodDescriptor yX3_put.desc).map (fun d => d.parameters.length) = some 1 := by decide +kernel
set_option maxRecDepth 20000 in
set_option maxHeartbeats 4000000 in
theorem k_X3_put (l : Launch) (D : va_G) (cI cJ cZ cO : ClassId) (z : Nat → Nat)   (h_t_ : Nat) (h_bytes : Nat) (x1 : Int32) (v_length : Int32) (v_bytes : Nat → Int32) (w_length : Int32) (w_bytes : Nat → Int32) (hF : F_X3_put x1 v_length v_bytes = some (w_length, w_bytes)) : Mv l yX3_put wsX3_put (rmD 0) D (gq_ty cI cJ cZ cO) z [.ref h_t_, .int x1] [(h_t_, .inr (3, [.int v_length, .ref h_bytes])), (h_bytes, .inl (cI, 1056, .inl v_bytes))] [(h_t_, .inr (3, [.int w_length, .ref h_bytes])), (h_bytes, .inl (cI, 1056, .inl w_bytes))] 0 0 := by
  refine Mv.of (cc := cX3_put) (maxL := 2) (by decide) rfl (Nat.le_of_ble_eq_true rfl) ⟨Nat.le_refl 0, Nat.le_refl 0⟩ ?_
  intro p e s m args below meth c A hC ha
  have hin_X3 : ∀ w ∈ wsX30, w ∈ wsX3_put := by decide +kernel
  have hw_9 : Cond.fieldLink RX3 9 (TX3 1).1 (TX3 1).2.1 (TX3 1).2.2.1 ∈ wsX3_put := by decide +kernel
  have hw_15 : Cond.fieldLink RX3 15 (TX3 0).1 (TX3 0).2.1 (TX3 0).2.2.1 ∈ wsX3_put := by decide +kernel
  obtain ⟨Q, hQ⟩ : ∃ Q, Q = gq_Qv below D A args s [(h_t_, .inr (3, [.int w_length, .ref h_bytes])), (h_bytes, .inl (cI, 1056, .inl w_bytes))] 0 0 := ⟨_, rfl⟩
  rw [← hQ]
  refine gq_loc [(0, .ref h_t_), (1, .int x1)] rfl ?_
  unfold F_X3_put at hF
  refine gq_aload_n hC 0 dX3_put_0 rfl rfl ?_
  refine gq_get hC (kf := 0) 0 hin_X3 rfl rfl (by decide) hw_15 rfl dX3_put_1 ?_
  refine gq_sipush hC (1056 : Int32) dX3_put_4 (by decide) ?_
  refine gq_icmp_ge hC 30 dX3_put_7 (by decide) (fun hc_2 => ?_) (fun hc_2 => ?_)
  · have hF := (if_pos hc_2).symm.trans hF
    cases hF
    rw [hQ]
    exact gq_vret hC dX3_put_30
  · have hF := (if_neg hc_2).symm.trans hF
    refine gq_aload_n hC 0 dX3_put_10 rfl rfl ?_
    refine gq_get hC (kf := 1) 0 hin_X3 rfl rfl (by decide) hw_9 rfl dX3_put_11 ?_
    refine gq_aload_n hC 0 dX3_put_14 rfl rfl ?_
    refine gq_get hC (kf := 0) 0 hin_X3 rfl rfl (by decide) hw_15 rfl dX3_put_15 ?_
    refine gq_iload_n hC 1 dX3_put_18 rfl rfl ?_
    obtain ⟨hi_1, hF⟩ := gi_e hF
    refine gq_iast hC 1 0 [(h_t_, .inr (3, [.int v_length, .ref h_bytes])), (h_bytes, .inl (cI, 1056, .inl (upd v_bytes v_length.toNatClampNeg x1)))] rfl rfl hi_1 dX3_put_19 rfl ?_
    refine gq_aload_n hC 0 dX3_put_20 rfl rfl ?_
    refine gq_dup hC dX3_put_21 rfl ?_
    refine gq_get hC (kf := 0) 0 hin_X3 rfl rfl (by decide) hw_15 rfl dX3_put_22 ?_
    refine gq_iconst hC (1 : Int32) dX3_put_25 (by decide) ?_
    refine gq_iadd hC dX3_put_26 ?_
    refine gq_put1 hC (kf := 0) 0 [(h_t_, .inr (3, [.int (v_length + (1 : Int32)), .ref h_bytes])), (h_bytes, .inl (cI, 1056, .inl (upd v_bytes v_length.toNatClampNeg x1)))] tyX3 tyX3_ok nmX3 hin_X3 rfl rfl (by decide) hw_15 rfl rfl rfl (Nat.le_of_ble_eq_true rfl) dX3_put_27 rfl ?_
    cases hF
    rw [hQ]
    exact gq_vret hC dX3_put_30
theorem hy_X3_putNumber : yX3_putNumber.cls = RX3 ∧ yX3_putNumber.cls ≠ "java/lang/invoke/MethodHandle" ∧ yX3_putNumber.cls ≠ "java/lang/invoke/VarHandle" ∧ (parseMethodDescriptor yX3_putNumber.desc).map (fun d => d.parameters.length) = some 1 := by decide +kernel
set_option maxRecDepth 20000 in
set_option maxHeartbeats 4000000 in
theorem k_X3_putNumber (l : Launch) (D : va_G) (cI cJ cZ cO : ClassId) (z : Nat → Nat)   (h_t_ : Nat) (h_bytes : Nat) (x1 : Int32) (v_length : Int32) (v_bytes : Nat → Int32) (w_length : Int32) (w_bytes : Nat → Int32) (hF : F_X3_putNumber x1 v_length v_bytes = some (w_length, w_bytes)) : Mv l yX3_putNumber wsX3_putNumber (rmD 1) D (gq_ty cI cJ cZ cO) z [.ref h_t_, .int x1] [(h_t_, .inr (3, [.int v_length, .ref h_bytes])), (h_bytes, .inl (cI, 1056, .inl v_bytes))] [(h_t_, .inr (3, [.int w_length, .ref h_bytes])), (h_bytes, .inl (cI, 1056, .inl w_bytes))] 0 0 := by
  refine Mv.of (cc := cX3_putNumber) (maxL := 3) (by decide) rfl (Nat.le_of_ble_eq_true rfl) ⟨Nat.le_refl 0, Nat.le_refl 0⟩ ?_
  intro p e s m args below meth c A hC ha
  obtain ⟨Q, hQ⟩ : ∃ Q, Q = gq_Qv below D A args s [(h_t_, .inr (3, [.int w_length, .ref h_bytes])), (h_bytes, .inl (cI, 1056, .inl w_bytes))] 0 0 := ⟨_, rfl⟩
  rw [← hQ]
  refine gq_loc [(0, .ref h_t_), (1, .int x1)] rfl ?_
  unfold F_X3_putNumber at hF
  refine gq_ldc hC (1000000000 : Int32) dX3_putNumber_0 (by decide +kernel) ?_
  refine gq_istore_n hC [(2, .int (1000000000 : Int32)), (0, .ref h_t_), (1, .int x1)] dX3_putNumber_2 rfl (by decide) rfl ?_
  have lp3 : ∀ (e_18 : (Int32)) (e_19 : (Nat → Int32)), Gx p l e (rmD 1) s m args below meth c D A 3 Q 0 0 39 [] [] [(h_t_, .inr (3, [.int e_18, .ref h_bytes])), (h_bytes, .inl (cI, 1056, .inl e_19))] → ∀ (N : Nat) (l2_1 : Int32) (v_length_2 : Int32) (v_bytes_3 : Nat → Int32), wh (fun k q => S_X3_putNumber_3 x1 k q.1 q.2.1 q.2.2) N (l2_1, v_length_2, v_bytes_3) = some (e_18, e_19) → Gx p l e (rmD 1) s m args below meth c D A 3 Q 0 0 3 [(0, .ref h_t_), (1, .int x1), (2, .int l2_1)] [] [(h_t_, .inr (3, [.int v_length_2, .ref h_bytes])), (h_bytes, .inl (cI, 1056, .inl v_bytes_3))] := by
    intro e_18 e_19 hx0 N
    induction N with
    | zero => intro l2_1 v_length_2 v_bytes_3 hw; exact absurd hw (wh_0 _ _ _)
    | succ N ih =>
      have jb31 : ∀ (l2_4 : Int32) (v_length_5 : Int32) (v_bytes_6 : Nat → Int32), F_X3_putNumber_b31 (wh (fun k q => S_X3_putNumber_3 x1 k q.1 q.2.1 q.2.2) N) x1 l2_4 v_length_5 v_bytes_6 = some (e_18, e_19) → Gx p l e (rmD 1) s m args below meth c D A 3 Q 0 0 31 [(0, .ref h_t_), (1, .int x1), (2, .int l2_4)] [] [(h_t_, .inr (3, [.int v_length_5, .ref h_bytes])), (h_bytes, .inl (cI, 1056, .inl v_bytes_6))] := by
        intro l2_4 v_length_5 v_bytes_6 hF
        unfold F_X3_putNumber_b31 at hF
        refine gq_iload_n hC 2 dX3_putNumber_31 rfl rfl ?_
        refine gq_bipush hC (10 : Int32) dX3_putNumber_32 (by decide) ?_
        obtain ⟨hz_7, hF⟩ := gzi_e hF
        refine gq_idiv hC dX3_putNumber_34 hz_7 ?_
        refine gq_istore_n hC [(2, .int (l2_4 / (10 : Int32))), (0, .ref h_t_), (1, .int x1)] dX3_putNumber_35 rfl (by decide) rfl ?_
        refine gq_goto hC 3 dX3_putNumber_36 (by decide) ?_
        refine gq_sub [(0, .ref h_t_), (1, .int x1), (2, .int (l2_4 / (10 : Int32)))] [1, 2, 0] rfl ?_
        exact ih (l2_4 / (10 : Int32)) v_length_5 v_bytes_6 hF
      have jb17 : ∀ (l2_8 : Int32) (v_length_9 : Int32) (v_bytes_10 : Nat → Int32), F_X3_putNumber_b17 (wh (fun k q => S_X3_putNumber_3 x1 k q.1 q.2.1 q.2.2) N) x1 l2_8 v_length_9 v_bytes_10 = some (e_18, e_19) → Gx p l e (rmD 1) s m args below meth c D A 3 Q 0 0 17 [(0, .ref h_t_), (1, .int x1), (2, .int l2_8)] [] [(h_t_, .inr (3, [.int v_length_9, .ref h_bytes])), (h_bytes, .inl (cI, 1056, .inl v_bytes_10))] := by
        intro l2_8 v_length_9 v_bytes_10 hF
        unfold F_X3_putNumber_b17 at hF
        refine gq_aload_n hC 0 dX3_putNumber_17 rfl rfl ?_
        refine gq_bipush hC (48 : Int32) dX3_putNumber_18 (by decide) ?_
        refine gq_iload_n hC 1 dX3_putNumber_20 rfl rfl ?_
        refine gq_iload_n hC 2 dX3_putNumber_21 rfl rfl ?_
        obtain ⟨hz_11, hF⟩ := gzi_e hF
        refine gq_idiv hC dX3_putNumber_22 hz_11 ?_
        refine gq_bipush hC (10 : Int32) dX3_putNumber_23 (by decide) ?_
        obtain ⟨hz_12, hF⟩ := gzi_e hF
        refine gq_irem hC dX3_putNumber_25 hz_12 ?_
        refine gq_iadd hC dX3_putNumber_26 ?_
        refine gq_i2c hC dX3_putNumber_27 ?_
        obtain ⟨v_length_13, v_bytes_14, hc_, hF⟩ := ob2_e hF
        refine gq_callVv hC [0, 1] [(h_t_, .inr (3, [.int v_length_13, .ref h_bytes])), (h_bytes, .inl (cI, 1056, .inl v_bytes_14))] [.int ((((48 : Int32) + ((x1 / l2_8) - (x1 / l2_8) / (10 : Int32) * (10 : Int32))).toUInt32 % 65536).toInt32)] [] (k_X3_put l D cI cJ cZ cO z h_t_ h_bytes ((((48 : Int32) + ((x1 / l2_8) - (x1 / l2_8) / (10 : Int32) * (10 : Int32))).toUInt32 % 65536).toInt32) v_length_9 v_bytes_10 v_length_13 v_bytes_14 hc_) gX3_putNumber_X3_put rfl ⟨rfl, rfl⟩ hy_X3_put ⟨Nat.le_of_ble_eq_true rfl, Nat.le_of_ble_eq_true rfl⟩ rfl rfl rfl (q0 := 0) rfl rfl rfl (Nat.le_of_ble_eq_true rfl) rfl dX3_putNumber_28 rfl rfl ?_
        exact jb31 l2_8 v_length_13 v_bytes_14 hF
      intro l2_1 v_length_2 v_bytes_3 hw
      have hF : S_X3_putNumber_3 x1 (wh (fun k q => S_X3_putNumber_3 x1 k q.1 q.2.1 q.2.2) N) l2_1 v_length_2 v_bytes_3 = some (e_18, e_19) := hw
      unfold S_X3_putNumber_3 at hF
      refine gq_iload_n hC 2 dX3_putNumber_3 rfl rfl ?_
      refine gq_if_le hC 39 dX3_putNumber_4 (by decide) (fun hc_17 => ?_) (fun hc_17 => ?_)
      · have hF := (if_pos hc_17).symm.trans hF
        refine gq_sub [] [] rfl ?_
        cases hF
        exact hx0
      · have hF := (if_neg hc_17).symm.trans hF
        refine gq_iload_n hC 1 dX3_putNumber_7 rfl rfl ?_
        refine gq_iload_n hC 2 dX3_putNumber_8 rfl rfl ?_
        refine gq_icmp_ge hC 17 dX3_putNumber_9 (by decide) (fun hc_16 => ?_) (fun hc_16 => ?_)
        · have hF := (if_pos hc_16).symm.trans hF
          exact jb17 l2_1 v_length_2 v_bytes_3 hF
        · have hF := (if_neg hc_16).symm.trans hF
          refine gq_iload_n hC 2 dX3_putNumber_12 rfl rfl ?_
          refine gq_iconst hC (1 : Int32) dX3_putNumber_13 (by decide) ?_
          refine gq_icmp_ne hC 31 dX3_putNumber_14 (by decide) (fun hc_15 => ?_) (fun hc_15 => ?_)
          · have hF := (if_neg hc_15).symm.trans hF
            exact jb31 l2_1 v_length_2 v_bytes_3 hF
          · have hF := (if_pos hc_15).symm.trans hF
            exact jb17 l2_1 v_length_2 v_bytes_3 hF
  refine gq_sub [(0, .ref h_t_), (1, .int x1), (2, .int (1000000000 : Int32))] [1, 2, 0] rfl ?_
  obtain ⟨e_20, e_21, hw_, hF⟩ := ob2_e hF
  refine lp3  e_20 e_21 ?_ wF (1000000000 : Int32) v_length v_bytes hw_
  cases hF
  rw [hQ]
  exact gq_vret hC dX3_putNumber_39
theorem hy_X3_putName : yX3_putName.cls = RX3 ∧ yX3_putName.cls ≠ "java/lang/invoke/MethodHandle" ∧ yX3_putName.cls ≠ "java/lang/invoke/VarHandle" ∧ (parseMethodDescriptor yX3_putName.desc).map (fun d => d.parameters.length) = some 1 := by decide +kernel
set_option maxRecDepth 20000 in
set_option maxHeartbeats 4000000 in
theorem k_X3_putName (l : Launch) (D : va_G) (cI cJ cZ cO : ClassId) (z : Nat → Nat)   (h_t_ : Nat) (h_bytes : Nat) (x1 : Int64) (v_length : Int32) (v_bytes : Nat → Int32) (w_length : Int32) (w_bytes : Nat → Int32) (hF : F_X3_putName x1 v_length v_bytes = some (w_length, w_bytes)) : Mv l yX3_putName wsX3_putName (rmD 1) D (gq_ty cI cJ cZ cO) z [.ref h_t_, .long x1] [(h_t_, .inr (3, [.int v_length, .ref h_bytes])), (h_bytes, .inl (cI, 1056, .inl v_bytes))] [(h_t_, .inr (3, [.int w_length, .ref h_bytes])), (h_bytes, .inl (cI, 1056, .inl w_bytes))] 0 0 := by
  refine Mv.of (cc := cX3_putName) (maxL := 5) (by decide) rfl (Nat.le_of_ble_eq_true rfl) ⟨Nat.le_refl 0, Nat.le_refl 0⟩ ?_
  intro p e s m args below meth c A hC ha
  obtain ⟨Q, hQ⟩ : ∃ Q, Q = gq_Qv below D A args s [(h_t_, .inr (3, [.int w_length, .ref h_bytes])), (h_bytes, .inl (cI, 1056, .inl w_bytes))] 0 0 := ⟨_, rfl⟩
  rw [← hQ]
  refine gq_loc [(0, .ref h_t_), (1, .long x1)] rfl ?_
  unfold F_X3_putName at hF
  refine gq_bipush hC (35 : Int32) dX3_putName_0 (by decide) ?_
  refine gq_istore_n hC [(3, .int (35 : Int32)), (0, .ref h_t_), (1, .long x1)] dX3_putName_2 rfl (by decide) rfl ?_
  have lp3 : ∀ (e_8 : (Int32)) (e_9 : (Nat → Int32)), Gx p l e (rmD 1) s m args below meth c D A 5 Q 0 0 38 [] [] [(h_t_, .inr (3, [.int e_8, .ref h_bytes])), (h_bytes, .inl (cI, 1056, .inl e_9))] → ∀ (N : Nat) (l3_1 : Int32) (v_length_2 : Int32) (v_bytes_3 : Nat → Int32), wh (fun k q => S_X3_putName_3 x1 k q.1 q.2.1 q.2.2) N (l3_1, v_length_2, v_bytes_3) = some (e_8, e_9) → Gx p l e (rmD 1) s m args below meth c D A 5 Q 0 0 3 [(0, .ref h_t_), (1, .long x1), (3, .int l3_1)] [] [(h_t_, .inr (3, [.int v_length_2, .ref h_bytes])), (h_bytes, .inl (cI, 1056, .inl v_bytes_3))] := by
    intro e_8 e_9 hx0 N
    induction N with
    | zero => intro l3_1 v_length_2 v_bytes_3 hw; exact absurd hw (wh_0 _ _ _)
    | succ N ih =>
      intro l3_1 v_length_2 v_bytes_3 hw
      have hF : S_X3_putName_3 x1 (wh (fun k q => S_X3_putName_3 x1 k q.1 q.2.1 q.2.2) N) l3_1 v_length_2 v_bytes_3 = some (e_8, e_9) := hw
      unfold S_X3_putName_3 at hF
      refine gq_iload_n hC 2 dX3_putName_3 rfl rfl ?_
      refine gq_if_lt hC 38 dX3_putName_4 (by decide) (fun hc_7 => ?_) (fun hc_7 => ?_)
      · have hF := (if_pos hc_7).symm.trans hF
        refine gq_sub [] [] rfl ?_
        cases hF
        exact hx0
      · have hF := (if_neg hc_7).symm.trans hF
        refine gq_lload_n hC 1 dX3_putName_7 rfl rfl ?_
        refine gq_iload_n hC 2 dX3_putName_8 rfl rfl ?_
        refine gq_lushr hC dX3_putName_9 ?_
        refine gq_ldc2 hC (31 : Int64) dX3_putName_10 (by decide +kernel) ?_
        refine gq_land hC dX3_putName_13 ?_
        refine gq_l2i hC dX3_putName_14 ?_
        refine gq_istore hC [(4, .int ((((x1.toUInt64 >>> (l3_1.toInt64.toUInt64 &&& Int64.toUInt64 63)).toInt64) &&& (31 : Int64)).toInt32)), (0, .ref h_t_), (1, .long x1), (3, .int l3_1)] dX3_putName_15 (by decide) rfl ?_
        refine gq_iload hC 0 dX3_putName_17 rfl ?_
        refine gq_if_le hC 32 dX3_putName_19 (by decide) (fun hc_6 => ?_) (fun hc_6 => ?_)
        · have hF := (if_pos hc_6).symm.trans hF
          refine gq_iinc hC 3 (l3_1 + (-5 : Int32)) [(3, .int (l3_1 + (-5 : Int32))), (4, .int ((((x1.toUInt64 >>> (l3_1.toInt64.toUInt64 &&& Int64.toUInt64 63)).toInt64) &&& (31 : Int64)).toInt32)), (0, .ref h_t_), (1, .long x1)] dX3_putName_32 rfl rfl (by decide) rfl ?_
          refine gq_goto hC 3 dX3_putName_35 (by decide) ?_
          refine gq_sub [(0, .ref h_t_), (1, .long x1), (3, .int (l3_1 + (-5 : Int32)))] [2, 3, 0] rfl ?_
          exact ih (l3_1 + (-5 : Int32)) v_length_2 v_bytes_3 hF
        · have hF := (if_neg hc_6).symm.trans hF
          refine gq_aload_n hC 1 dX3_putName_22 rfl rfl ?_
          refine gq_bipush hC (96 : Int32) dX3_putName_23 (by decide) ?_
          refine gq_iload hC 0 dX3_putName_25 rfl ?_
          refine gq_iadd hC dX3_putName_27 ?_
          refine gq_i2c hC dX3_putName_28 ?_
          obtain ⟨v_length_4, v_bytes_5, hc_, hF⟩ := ob2_e hF
          refine gq_callVv hC [0, 1] [(h_t_, .inr (3, [.int v_length_4, .ref h_bytes])), (h_bytes, .inl (cI, 1056, .inl v_bytes_5))] [.int ((((96 : Int32) + ((((x1.toUInt64 >>> (l3_1.toInt64.toUInt64 &&& Int64.toUInt64 63)).toInt64) &&& (31 : Int64)).toInt32)).toUInt32 % 65536).toInt32)] [] (k_X3_put l D cI cJ cZ cO z h_t_ h_bytes ((((96 : Int32) + ((((x1.toUInt64 >>> (l3_1.toInt64.toUInt64 &&& Int64.toUInt64 63)).toInt64) &&& (31 : Int64)).toInt32)).toUInt32 % 65536).toInt32) v_length_2 v_bytes_3 v_length_4 v_bytes_5 hc_) gX3_putName_X3_put rfl ⟨rfl, rfl⟩ hy_X3_put ⟨Nat.le_of_ble_eq_true rfl, Nat.le_of_ble_eq_true rfl⟩ rfl rfl rfl (q0 := 0) rfl rfl rfl (Nat.le_of_ble_eq_true rfl) rfl dX3_putName_29 rfl rfl ?_
          refine gq_iinc hC 3 (l3_1 + (-5 : Int32)) [(3, .int (l3_1 + (-5 : Int32))), (4, .int ((((x1.toUInt64 >>> (l3_1.toInt64.toUInt64 &&& Int64.toUInt64 63)).toInt64) &&& (31 : Int64)).toInt32)), (0, .ref h_t_), (1, .long x1)] dX3_putName_32 rfl rfl (by decide) rfl ?_
          refine gq_goto hC 3 dX3_putName_35 (by decide) ?_
          refine gq_sub [(0, .ref h_t_), (1, .long x1), (3, .int (l3_1 + (-5 : Int32)))] [2, 3, 0] rfl ?_
          exact ih (l3_1 + (-5 : Int32)) v_length_4 v_bytes_5 hF
  refine gq_sub [(0, .ref h_t_), (1, .long x1), (3, .int (35 : Int32))] [1, 2, 0] rfl ?_
  obtain ⟨e_10, e_11, hw_, hF⟩ := ob2_e hF
  refine lp3  e_10 e_11 ?_ wF (35 : Int32) v_length v_bytes hw_
  cases hF
  rw [hQ]
  exact gq_vret hC dX3_putName_38
theorem hy_X6_copyFrom : yX6_copyFrom.cls = RX6 ∧ yX6_copyFrom.cls ≠ "java/lang/invoke/MethodHandle" ∧ yX6_copyFrom.cls ≠ "java/lang/invoke/VarHandle" ∧ (parseMethodDescriptor yX6_copyFrom.desc).map (fun d => d.parameters.length) = some 1 := by decide +kernel
set_option maxRecDepth 20000 in
set_option maxHeartbeats 4000000 in
theorem k_X6_copyFrom (l : Launch) (D : va_G) (cI cJ cZ cO : ClassId) (z : Nat → Nat)   (h_t_ : Nat) (h_transcript : Nat) (h_transcript_order : Nat) (h_transcript_durations : Nat) (h_transcript_pauses : Nat) (h_transcript_sizes : Nat) (h_transcript_words : Nat) (h_transcript_names : Nat) (h_slots : Nat) (h_slots_wishes : Nat) (h_slots_lengths : Nat) (h_slots_reaches : Nat) (h_kept : Nat) (h_kept_rows : Nat) (h_kept_starts : Nat) (h_kept_durations : Nat) (h_settings : Nat) (h_p1 : Nat) (h_p1_transcript : Nat) (h_p1_transcript_order : Nat) (h_p1_transcript_durations : Nat) (h_p1_transcript_pauses : Nat) (h_p1_transcript_sizes : Nat) (h_p1_transcript_words : Nat) (h_p1_transcript_names : Nat) (h_p1_slots : Nat) (h_p1_slots_wishes : Nat) (h_p1_slots_lengths : Nat) (h_p1_slots_reaches : Nat) (h_p1_kept : Nat) (h_p1_kept_rows : Nat) (h_p1_kept_starts : Nat) (h_p1_kept_durations : Nat) (h_p1_settings : Nat)  (v_transcript_segmentCount : Int32) (v_transcript_wordCount : Int32) (v_transcript_order : Nat → Int32) (v_transcript_durations : Nat → Int32) (v_transcript_pauses : Nat → Int32) (v_transcript_sizes : Nat → Int32) (v_transcript_words : Nat → Int32) (v_transcript_names : Nat → Int64) (v_slots_slotCount : Int32) (v_slots_wishes : Nat → Int32) (v_slots_lengths : Nat → Int32) (v_slots_reaches : Nat → Int32) (v_kept_exists : Int32) (v_kept_segmentCount : Int32) (v_kept_total : Int32) (v_kept_rows : Nat → Int32) (v_kept_starts : Nat → Int32) (v_kept_durations : Nat → Int32) (v_settings : Nat → Int32) (v_p1_transcript_segmentCount : Int32) (v_p1_transcript_wordCount : Int32) (v_p1_transcript_order : Nat → Int32) (v_p1_transcript_durations : Nat → Int32) (v_p1_transcript_pauses : Nat → Int32) (v_p1_transcript_sizes : Nat → Int32) (v_p1_transcript_words : Nat → Int32) (v_p1_transcript_names : Nat → Int64) (v_p1_slots_slotCount : Int32) (v_p1_slots_wishes : Nat → Int32) (v_p1_slots_lengths : Nat → Int32) (v_p1_slots_reaches : Nat → Int32) (v_p1_kept_exists : Int32) (v_p1_kept_segmentCount : Int32) (v_p1_kept_total : Int32) (v_p1_kept_rows : Nat → Int32) (v_p1_kept_starts : Nat → Int32) (v_p1_kept_durations : Nat → Int32) (v_p1_settings : Nat → Int32) (w_transcript_segmentCount : Int32) (w_transcript_wordCount : Int32) (w_transcript_order : Nat → Int32) (w_transcript_durations : Nat → Int32) (w_transcript_pauses : Nat → Int32) (w_transcript_sizes : Nat → Int32) (w_transcript_words : Nat → Int32) (w_transcript_names : Nat → Int64) (w_slots_slotCount : Int32) (w_slots_wishes : Nat → Int32) (w_slots_lengths : Nat → Int32) (w_slots_reaches : Nat → Int32) (w_kept_exists : Int32) (w_kept_segmentCount : Int32) (w_kept_total : Int32) (w_kept_rows : Nat → Int32) (w_kept_starts : Nat → Int32) (w_kept_durations : Nat → Int32) (w_settings : Nat → Int32) (hF : F_X6_copyFrom v_transcript_segmentCount v_transcript_wordCount v_transcript_order v_transcript_durations v_transcript_pauses v_transcript_sizes v_transcript_words v_transcript_names v_slots_slotCount v_slots_wishes v_slots_lengths v_slots_reaches v_kept_exists v_kept_segmentCount v_kept_total v_kept_rows v_kept_starts v_kept_durations v_settings v_p1_transcript_segmentCount v_p1_transcript_wordCount v_p1_transcript_order v_p1_transcript_durations v_p1_transcript_pauses v_p1_transcript_sizes v_p1_transcript_words v_p1_transcript_names v_p1_slots_slotCount v_p1_slots_wishes v_p1_slots_lengths v_p1_slots_reaches v_p1_kept_exists v_p1_kept_segmentCount v_p1_kept_total v_p1_kept_rows v_p1_kept_starts v_p1_kept_durations v_p1_settings = some (w_transcript_segmentCount, w_transcript_wordCount, w_transcript_order, w_transcript_durations, w_transcript_pauses, w_transcript_sizes, w_transcript_words, w_transcript_names, w_slots_slotCount, w_slots_wishes, w_slots_lengths, w_slots_reaches, w_kept_exists, w_kept_segmentCount, w_kept_total, w_kept_rows, w_kept_starts, w_kept_durations, w_settings)) : Mv l yX6_copyFrom wsX6_copyFrom (rmD 2) D (gq_ty cI cJ cZ cO) z [.ref h_t_, .ref h_p1] [(h_t_, .inr (6, [.ref h_transcript, .ref h_slots, .ref h_kept, .ref h_settings])), (h_transcript, .inr (9, [.int v_transcript_segmentCount, .int v_transcript_wordCount, .ref h_transcript_order, .ref h_transcript_durations, .ref h_transcript_pauses, .ref h_transcript_sizes, .ref h_transcript_words, .ref h_transcript_names])), (h_transcript_order, .inl (cI, 32, .inl v_transcript_order)), (h_transcript_durations, .inl (cI, 32, .inl v_transcript_durations)), (h_transcript_pauses, .inl (cI, 32, .inl v_transcript_pauses)), (h_transcript_sizes, .inl (cI, 32, .inl v_transcript_sizes)), (h_transcript_words, .inl (cI, 256, .inl v_transcript_words)), (h_transcript_names, .inl (cJ, 24, .inr (.inl v_transcript_names))), (h_slots, .inr (7, [.int v_slots_slotCount, .ref h_slots_wishes, .ref h_slots_lengths, .ref h_slots_reaches])), (h_slots_wishes, .inl (cI, 5, .inl v_slots_wishes)), (h_slots_lengths, .inl (cI, 5, .inl v_slots_lengths)), (h_slots_reaches, .inl (cI, 5, .inl v_slots_reaches)), (h_kept, .inr (2, [.int v_kept_exists, .int v_kept_segmentCount, .int v_kept_total, .ref h_kept_rows, .ref h_kept_starts, .ref h_kept_durations])), (h_kept_rows, .inl (cI, 32, .inl v_kept_rows)), (h_kept_starts, .inl (cI, 32, .inl v_kept_starts)), (h_kept_durations, .inl (cI, 32, .inl v_kept_durations)), (h_settings, .inl (cI, 6, .inl v_settings)), (h_p1, .inr (6, [.ref h_p1_transcript, .ref h_p1_slots, .ref h_p1_kept, .ref h_p1_settings])), (h_p1_transcript, .inr (9, [.int v_p1_transcript_segmentCount, .int v_p1_transcript_wordCount, .ref h_p1_transcript_order, .ref h_p1_transcript_durations, .ref h_p1_transcript_pauses, .ref h_p1_transcript_sizes, .ref h_p1_transcript_words, .ref h_p1_transcript_names])), (h_p1_transcript_order, .inl (cI, 32, .inl v_p1_transcript_order)), (h_p1_transcript_durations, .inl (cI, 32, .inl v_p1_transcript_durations)), (h_p1_transcript_pauses, .inl (cI, 32, .inl v_p1_transcript_pauses)), (h_p1_transcript_sizes, .inl (cI, 32, .inl v_p1_transcript_sizes)), (h_p1_transcript_words, .inl (cI, 256, .inl v_p1_transcript_words)), (h_p1_transcript_names, .inl (cJ, 24, .inr (.inl v_p1_transcript_names))), (h_p1_slots, .inr (7, [.int v_p1_slots_slotCount, .ref h_p1_slots_wishes, .ref h_p1_slots_lengths, .ref h_p1_slots_reaches])), (h_p1_slots_wishes, .inl (cI, 5, .inl v_p1_slots_wishes)), (h_p1_slots_lengths, .inl (cI, 5, .inl v_p1_slots_lengths)), (h_p1_slots_reaches, .inl (cI, 5, .inl v_p1_slots_reaches)), (h_p1_kept, .inr (2, [.int v_p1_kept_exists, .int v_p1_kept_segmentCount, .int v_p1_kept_total, .ref h_p1_kept_rows, .ref h_p1_kept_starts, .ref h_p1_kept_durations])), (h_p1_kept_rows, .inl (cI, 32, .inl v_p1_kept_rows)), (h_p1_kept_starts, .inl (cI, 32, .inl v_p1_kept_starts)), (h_p1_kept_durations, .inl (cI, 32, .inl v_p1_kept_durations)), (h_p1_settings, .inl (cI, 6, .inl v_p1_settings))] [(h_t_, .inr (6, [.ref h_transcript, .ref h_slots, .ref h_kept, .ref h_settings])), (h_transcript, .inr (9, [.int w_transcript_segmentCount, .int w_transcript_wordCount, .ref h_transcript_order, .ref h_transcript_durations, .ref h_transcript_pauses, .ref h_transcript_sizes, .ref h_transcript_words, .ref h_transcript_names])), (h_transcript_order, .inl (cI, 32, .inl w_transcript_order)), (h_transcript_durations, .inl (cI, 32, .inl w_transcript_durations)), (h_transcript_pauses, .inl (cI, 32, .inl w_transcript_pauses)), (h_transcript_sizes, .inl (cI, 32, .inl w_transcript_sizes)), (h_transcript_words, .inl (cI, 256, .inl w_transcript_words)), (h_transcript_names, .inl (cJ, 24, .inr (.inl w_transcript_names))), (h_slots, .inr (7, [.int w_slots_slotCount, .ref h_slots_wishes, .ref h_slots_lengths, .ref h_slots_reaches])), (h_slots_wishes, .inl (cI, 5, .inl w_slots_wishes)), (h_slots_lengths, .inl (cI, 5, .inl w_slots_lengths)), (h_slots_reaches, .inl (cI, 5, .inl w_slots_reaches)), (h_kept, .inr (2, [.int w_kept_exists, .int w_kept_segmentCount, .int w_kept_total, .ref h_kept_rows, .ref h_kept_starts, .ref h_kept_durations])), (h_kept_rows, .inl (cI, 32, .inl w_kept_rows)), (h_kept_starts, .inl (cI, 32, .inl w_kept_starts)), (h_kept_durations, .inl (cI, 32, .inl w_kept_durations)), (h_settings, .inl (cI, 6, .inl w_settings)), (h_p1, .inr (6, [.ref h_p1_transcript, .ref h_p1_slots, .ref h_p1_kept, .ref h_p1_settings])), (h_p1_transcript, .inr (9, [.int v_p1_transcript_segmentCount, .int v_p1_transcript_wordCount, .ref h_p1_transcript_order, .ref h_p1_transcript_durations, .ref h_p1_transcript_pauses, .ref h_p1_transcript_sizes, .ref h_p1_transcript_words, .ref h_p1_transcript_names])), (h_p1_transcript_order, .inl (cI, 32, .inl v_p1_transcript_order)), (h_p1_transcript_durations, .inl (cI, 32, .inl v_p1_transcript_durations)), (h_p1_transcript_pauses, .inl (cI, 32, .inl v_p1_transcript_pauses)), (h_p1_transcript_sizes, .inl (cI, 32, .inl v_p1_transcript_sizes)), (h_p1_transcript_words, .inl (cI, 256, .inl v_p1_transcript_words)), (h_p1_transcript_names, .inl (cJ, 24, .inr (.inl v_p1_transcript_names))), (h_p1_slots, .inr (7, [.int v_p1_slots_slotCount, .ref h_p1_slots_wishes, .ref h_p1_slots_lengths, .ref h_p1_slots_reaches])), (h_p1_slots_wishes, .inl (cI, 5, .inl v_p1_slots_wishes)), (h_p1_slots_lengths, .inl (cI, 5, .inl v_p1_slots_lengths)), (h_p1_slots_reaches, .inl (cI, 5, .inl v_p1_slots_reaches)), (h_p1_kept, .inr (2, [.int v_p1_kept_exists, .int v_p1_kept_segmentCount, .int v_p1_kept_total, .ref h_p1_kept_rows, .ref h_p1_kept_starts, .ref h_p1_kept_durations])), (h_p1_kept_rows, .inl (cI, 32, .inl v_p1_kept_rows)), (h_p1_kept_starts, .inl (cI, 32, .inl v_p1_kept_starts)), (h_p1_kept_durations, .inl (cI, 32, .inl v_p1_kept_durations)), (h_p1_settings, .inl (cI, 6, .inl v_p1_settings))] 0 0 := by
  refine Mv.of (cc := cX6_copyFrom) (maxL := 2) (by decide) rfl (Nat.le_of_ble_eq_true rfl) ⟨Nat.le_refl 0, Nat.le_refl 0⟩ ?_
  intro p e s m args below meth c A hC ha
  have hin_X6 : ∀ w ∈ wsX60, w ∈ wsX6_copyFrom := by decide +kernel
  have hw_12 : Cond.fieldLink RX6 12 (TX6 0).1 (TX6 0).2.1 (TX6 0).2.2.1 ∈ wsX6_copyFrom := by decide +kernel
  have hw_21 : Cond.fieldLink RX6 21 (TX6 1).1 (TX6 1).2.1 (TX6 1).2.2.1 ∈ wsX6_copyFrom := by decide +kernel
  have hw_28 : Cond.fieldLink RX6 28 (TX6 2).1 (TX6 2).2.1 (TX6 2).2.2.1 ∈ wsX6_copyFrom := by decide +kernel
  have hw_41 : Cond.fieldLink RX6 41 (TX6 3).1 (TX6 3).2.1 (TX6 3).2.2.1 ∈ wsX6_copyFrom := by decide +kernel
  obtain ⟨Q, hQ⟩ : ∃ Q, Q = gq_Qv below D A args s [(h_t_, .inr (6, [.ref h_transcript, .ref h_slots, .ref h_kept, .ref h_settings])), (h_transcript, .inr (9, [.int w_transcript_segmentCount, .int w_transcript_wordCount, .ref h_transcript_order, .ref h_transcript_durations, .ref h_transcript_pauses, .ref h_transcript_sizes, .ref h_transcript_words, .ref h_transcript_names])), (h_transcript_order, .inl (cI, 32, .inl w_transcript_order)), (h_transcript_durations, .inl (cI, 32, .inl w_transcript_durations)), (h_transcript_pauses, .inl (cI, 32, .inl w_transcript_pauses)), (h_transcript_sizes, .inl (cI, 32, .inl w_transcript_sizes)), (h_transcript_words, .inl (cI, 256, .inl w_transcript_words)), (h_transcript_names, .inl (cJ, 24, .inr (.inl w_transcript_names))), (h_slots, .inr (7, [.int w_slots_slotCount, .ref h_slots_wishes, .ref h_slots_lengths, .ref h_slots_reaches])), (h_slots_wishes, .inl (cI, 5, .inl w_slots_wishes)), (h_slots_lengths, .inl (cI, 5, .inl w_slots_lengths)), (h_slots_reaches, .inl (cI, 5, .inl w_slots_reaches)), (h_kept, .inr (2, [.int w_kept_exists, .int w_kept_segmentCount, .int w_kept_total, .ref h_kept_rows, .ref h_kept_starts, .ref h_kept_durations])), (h_kept_rows, .inl (cI, 32, .inl w_kept_rows)), (h_kept_starts, .inl (cI, 32, .inl w_kept_starts)), (h_kept_durations, .inl (cI, 32, .inl w_kept_durations)), (h_settings, .inl (cI, 6, .inl w_settings)), (h_p1, .inr (6, [.ref h_p1_transcript, .ref h_p1_slots, .ref h_p1_kept, .ref h_p1_settings])), (h_p1_transcript, .inr (9, [.int v_p1_transcript_segmentCount, .int v_p1_transcript_wordCount, .ref h_p1_transcript_order, .ref h_p1_transcript_durations, .ref h_p1_transcript_pauses, .ref h_p1_transcript_sizes, .ref h_p1_transcript_words, .ref h_p1_transcript_names])), (h_p1_transcript_order, .inl (cI, 32, .inl v_p1_transcript_order)), (h_p1_transcript_durations, .inl (cI, 32, .inl v_p1_transcript_durations)), (h_p1_transcript_pauses, .inl (cI, 32, .inl v_p1_transcript_pauses)), (h_p1_transcript_sizes, .inl (cI, 32, .inl v_p1_transcript_sizes)), (h_p1_transcript_words, .inl (cI, 256, .inl v_p1_transcript_words)), (h_p1_transcript_names, .inl (cJ, 24, .inr (.inl v_p1_transcript_names))), (h_p1_slots, .inr (7, [.int v_p1_slots_slotCount, .ref h_p1_slots_wishes, .ref h_p1_slots_lengths, .ref h_p1_slots_reaches])), (h_p1_slots_wishes, .inl (cI, 5, .inl v_p1_slots_wishes)), (h_p1_slots_lengths, .inl (cI, 5, .inl v_p1_slots_lengths)), (h_p1_slots_reaches, .inl (cI, 5, .inl v_p1_slots_reaches)), (h_p1_kept, .inr (2, [.int v_p1_kept_exists, .int v_p1_kept_segmentCount, .int v_p1_kept_total, .ref h_p1_kept_rows, .ref h_p1_kept_starts, .ref h_p1_kept_durations])), (h_p1_kept_rows, .inl (cI, 32, .inl v_p1_kept_rows)), (h_p1_kept_starts, .inl (cI, 32, .inl v_p1_kept_starts)), (h_p1_kept_durations, .inl (cI, 32, .inl v_p1_kept_durations)), (h_p1_settings, .inl (cI, 6, .inl v_p1_settings))] 0 0 := ⟨_, rfl⟩
  rw [← hQ]
  refine gq_loc [(0, .ref h_t_), (1, .ref h_p1)] rfl ?_
  unfold F_X6_copyFrom at hF
  refine gq_aload_n hC 0 dX6_copyFrom_0 rfl rfl ?_
  refine gq_get hC (kf := 0) 0 hin_X6 rfl rfl (by decide) hw_12 rfl dX6_copyFrom_1 ?_
  refine gq_aload_n hC 1 dX6_copyFrom_4 rfl rfl ?_
  refine gq_get hC (kf := 0) 17 hin_X6 rfl rfl (by decide) hw_12 rfl dX6_copyFrom_5 ?_
  obtain ⟨v_transcript_segmentCount_1, v_transcript_wordCount_2, v_transcript_order_3, v_transcript_durations_4, v_transcript_pauses_5, v_transcript_sizes_6, v_transcript_words_7, v_transcript_names_8, hc_, hF⟩ := ob8_e hF
  refine gq_callVv hC [1, 2, 3, 4, 5, 6, 7, 18, 19, 20, 21, 22, 23, 24] [(h_t_, .inr (6, [.ref h_transcript, .ref h_slots, .ref h_kept, .ref h_settings])), (h_transcript, .inr (9, [.int v_transcript_segmentCount_1, .int v_transcript_wordCount_2, .ref h_transcript_order, .ref h_transcript_durations, .ref h_transcript_pauses, .ref h_transcript_sizes, .ref h_transcript_words, .ref h_transcript_names])), (h_transcript_order, .inl (cI, 32, .inl v_transcript_order_3)), (h_transcript_durations, .inl (cI, 32, .inl v_transcript_durations_4)), (h_transcript_pauses, .inl (cI, 32, .inl v_transcript_pauses_5)), (h_transcript_sizes, .inl (cI, 32, .inl v_transcript_sizes_6)), (h_transcript_words, .inl (cI, 256, .inl v_transcript_words_7)), (h_transcript_names, .inl (cJ, 24, .inr (.inl v_transcript_names_8))), (h_slots, .inr (7, [.int v_slots_slotCount, .ref h_slots_wishes, .ref h_slots_lengths, .ref h_slots_reaches])), (h_slots_wishes, .inl (cI, 5, .inl v_slots_wishes)), (h_slots_lengths, .inl (cI, 5, .inl v_slots_lengths)), (h_slots_reaches, .inl (cI, 5, .inl v_slots_reaches)), (h_kept, .inr (2, [.int v_kept_exists, .int v_kept_segmentCount, .int v_kept_total, .ref h_kept_rows, .ref h_kept_starts, .ref h_kept_durations])), (h_kept_rows, .inl (cI, 32, .inl v_kept_rows)), (h_kept_starts, .inl (cI, 32, .inl v_kept_starts)), (h_kept_durations, .inl (cI, 32, .inl v_kept_durations)), (h_settings, .inl (cI, 6, .inl v_settings)), (h_p1, .inr (6, [.ref h_p1_transcript, .ref h_p1_slots, .ref h_p1_kept, .ref h_p1_settings])), (h_p1_transcript, .inr (9, [.int v_p1_transcript_segmentCount, .int v_p1_transcript_wordCount, .ref h_p1_transcript_order, .ref h_p1_transcript_durations, .ref h_p1_transcript_pauses, .ref h_p1_transcript_sizes, .ref h_p1_transcript_words, .ref h_p1_transcript_names])), (h_p1_transcript_order, .inl (cI, 32, .inl v_p1_transcript_order)), (h_p1_transcript_durations, .inl (cI, 32, .inl v_p1_transcript_durations)), (h_p1_transcript_pauses, .inl (cI, 32, .inl v_p1_transcript_pauses)), (h_p1_transcript_sizes, .inl (cI, 32, .inl v_p1_transcript_sizes)), (h_p1_transcript_words, .inl (cI, 256, .inl v_p1_transcript_words)), (h_p1_transcript_names, .inl (cJ, 24, .inr (.inl v_p1_transcript_names))), (h_p1_slots, .inr (7, [.int v_p1_slots_slotCount, .ref h_p1_slots_wishes, .ref h_p1_slots_lengths, .ref h_p1_slots_reaches])), (h_p1_slots_wishes, .inl (cI, 5, .inl v_p1_slots_wishes)), (h_p1_slots_lengths, .inl (cI, 5, .inl v_p1_slots_lengths)), (h_p1_slots_reaches, .inl (cI, 5, .inl v_p1_slots_reaches)), (h_p1_kept, .inr (2, [.int v_p1_kept_exists, .int v_p1_kept_segmentCount, .int v_p1_kept_total, .ref h_p1_kept_rows, .ref h_p1_kept_starts, .ref h_p1_kept_durations])), (h_p1_kept_rows, .inl (cI, 32, .inl v_p1_kept_rows)), (h_p1_kept_starts, .inl (cI, 32, .inl v_p1_kept_starts)), (h_p1_kept_durations, .inl (cI, 32, .inl v_p1_kept_durations)), (h_p1_settings, .inl (cI, 6, .inl v_p1_settings))] [.ref h_p1_transcript] [] (k_X9_copyFrom l D cI cJ cZ cO z h_transcript h_transcript_order h_transcript_durations h_transcript_pauses h_transcript_sizes h_transcript_words h_transcript_names h_p1_transcript h_p1_transcript_order h_p1_transcript_durations h_p1_transcript_pauses h_p1_transcript_sizes h_p1_transcript_words h_p1_transcript_names v_transcript_segmentCount v_transcript_wordCount v_transcript_order v_transcript_durations v_transcript_pauses v_transcript_sizes v_transcript_words v_transcript_names v_p1_transcript_segmentCount v_p1_transcript_wordCount v_p1_transcript_order v_p1_transcript_durations v_p1_transcript_pauses v_p1_transcript_sizes v_p1_transcript_words v_p1_transcript_names v_transcript_segmentCount_1 v_transcript_wordCount_2 v_transcript_order_3 v_transcript_durations_4 v_transcript_pauses_5 v_transcript_sizes_6 v_transcript_words_7 v_transcript_names_8 hc_) gX6_copyFrom_X9_copyFrom rfl ⟨rfl, rfl⟩ hy_X9_copyFrom ⟨Nat.le_of_ble_eq_true rfl, Nat.le_of_ble_eq_true rfl⟩ rfl rfl rfl (q0 := 0) rfl rfl rfl (Nat.le_of_ble_eq_true rfl) rfl dX6_copyFrom_8 rfl rfl ?_
  refine gq_aload_n hC 0 dX6_copyFrom_11 rfl rfl ?_
  refine gq_get hC (kf := 1) 0 hin_X6 rfl rfl (by decide) hw_21 rfl dX6_copyFrom_12 ?_
  refine gq_aload_n hC 1 dX6_copyFrom_15 rfl rfl ?_
  refine gq_get hC (kf := 1) 17 hin_X6 rfl rfl (by decide) hw_21 rfl dX6_copyFrom_16 ?_
  obtain ⟨v_slots_slotCount_9, v_slots_wishes_10, v_slots_lengths_11, v_slots_reaches_12, hc_, hF⟩ := ob4_e hF
  refine gq_callVv hC [8, 9, 10, 11, 25, 26, 27, 28] [(h_t_, .inr (6, [.ref h_transcript, .ref h_slots, .ref h_kept, .ref h_settings])), (h_transcript, .inr (9, [.int v_transcript_segmentCount_1, .int v_transcript_wordCount_2, .ref h_transcript_order, .ref h_transcript_durations, .ref h_transcript_pauses, .ref h_transcript_sizes, .ref h_transcript_words, .ref h_transcript_names])), (h_transcript_order, .inl (cI, 32, .inl v_transcript_order_3)), (h_transcript_durations, .inl (cI, 32, .inl v_transcript_durations_4)), (h_transcript_pauses, .inl (cI, 32, .inl v_transcript_pauses_5)), (h_transcript_sizes, .inl (cI, 32, .inl v_transcript_sizes_6)), (h_transcript_words, .inl (cI, 256, .inl v_transcript_words_7)), (h_transcript_names, .inl (cJ, 24, .inr (.inl v_transcript_names_8))), (h_slots, .inr (7, [.int v_slots_slotCount_9, .ref h_slots_wishes, .ref h_slots_lengths, .ref h_slots_reaches])), (h_slots_wishes, .inl (cI, 5, .inl v_slots_wishes_10)), (h_slots_lengths, .inl (cI, 5, .inl v_slots_lengths_11)), (h_slots_reaches, .inl (cI, 5, .inl v_slots_reaches_12)), (h_kept, .inr (2, [.int v_kept_exists, .int v_kept_segmentCount, .int v_kept_total, .ref h_kept_rows, .ref h_kept_starts, .ref h_kept_durations])), (h_kept_rows, .inl (cI, 32, .inl v_kept_rows)), (h_kept_starts, .inl (cI, 32, .inl v_kept_starts)), (h_kept_durations, .inl (cI, 32, .inl v_kept_durations)), (h_settings, .inl (cI, 6, .inl v_settings)), (h_p1, .inr (6, [.ref h_p1_transcript, .ref h_p1_slots, .ref h_p1_kept, .ref h_p1_settings])), (h_p1_transcript, .inr (9, [.int v_p1_transcript_segmentCount, .int v_p1_transcript_wordCount, .ref h_p1_transcript_order, .ref h_p1_transcript_durations, .ref h_p1_transcript_pauses, .ref h_p1_transcript_sizes, .ref h_p1_transcript_words, .ref h_p1_transcript_names])), (h_p1_transcript_order, .inl (cI, 32, .inl v_p1_transcript_order)), (h_p1_transcript_durations, .inl (cI, 32, .inl v_p1_transcript_durations)), (h_p1_transcript_pauses, .inl (cI, 32, .inl v_p1_transcript_pauses)), (h_p1_transcript_sizes, .inl (cI, 32, .inl v_p1_transcript_sizes)), (h_p1_transcript_words, .inl (cI, 256, .inl v_p1_transcript_words)), (h_p1_transcript_names, .inl (cJ, 24, .inr (.inl v_p1_transcript_names))), (h_p1_slots, .inr (7, [.int v_p1_slots_slotCount, .ref h_p1_slots_wishes, .ref h_p1_slots_lengths, .ref h_p1_slots_reaches])), (h_p1_slots_wishes, .inl (cI, 5, .inl v_p1_slots_wishes)), (h_p1_slots_lengths, .inl (cI, 5, .inl v_p1_slots_lengths)), (h_p1_slots_reaches, .inl (cI, 5, .inl v_p1_slots_reaches)), (h_p1_kept, .inr (2, [.int v_p1_kept_exists, .int v_p1_kept_segmentCount, .int v_p1_kept_total, .ref h_p1_kept_rows, .ref h_p1_kept_starts, .ref h_p1_kept_durations])), (h_p1_kept_rows, .inl (cI, 32, .inl v_p1_kept_rows)), (h_p1_kept_starts, .inl (cI, 32, .inl v_p1_kept_starts)), (h_p1_kept_durations, .inl (cI, 32, .inl v_p1_kept_durations)), (h_p1_settings, .inl (cI, 6, .inl v_p1_settings))] [.ref h_p1_slots] [] (k_X7_copyFrom l D cI cJ cZ cO z h_slots h_slots_wishes h_slots_lengths h_slots_reaches h_p1_slots h_p1_slots_wishes h_p1_slots_lengths h_p1_slots_reaches v_slots_slotCount v_slots_wishes v_slots_lengths v_slots_reaches v_p1_slots_slotCount v_p1_slots_wishes v_p1_slots_lengths v_p1_slots_reaches v_slots_slotCount_9 v_slots_wishes_10 v_slots_lengths_11 v_slots_reaches_12 hc_) gX6_copyFrom_X7_copyFrom rfl ⟨rfl, rfl⟩ hy_X7_copyFrom ⟨Nat.le_of_ble_eq_true rfl, Nat.le_of_ble_eq_true rfl⟩ rfl rfl rfl (q0 := 0) rfl rfl rfl (Nat.le_of_ble_eq_true rfl) rfl dX6_copyFrom_19 rfl rfl ?_
  refine gq_aload_n hC 0 dX6_copyFrom_22 rfl rfl ?_
  refine gq_get hC (kf := 2) 0 hin_X6 rfl rfl (by decide) hw_28 rfl dX6_copyFrom_23 ?_
  refine gq_aload_n hC 1 dX6_copyFrom_26 rfl rfl ?_
  refine gq_get hC (kf := 2) 17 hin_X6 rfl rfl (by decide) hw_28 rfl dX6_copyFrom_27 ?_
  obtain ⟨v_kept_exists_13, v_kept_segmentCount_14, v_kept_total_15, v_kept_rows_16, v_kept_starts_17, v_kept_durations_18, hc_, hF⟩ := ob6_e hF
  refine gq_callVv hC [12, 13, 14, 15, 29, 30, 31, 32] [(h_t_, .inr (6, [.ref h_transcript, .ref h_slots, .ref h_kept, .ref h_settings])), (h_transcript, .inr (9, [.int v_transcript_segmentCount_1, .int v_transcript_wordCount_2, .ref h_transcript_order, .ref h_transcript_durations, .ref h_transcript_pauses, .ref h_transcript_sizes, .ref h_transcript_words, .ref h_transcript_names])), (h_transcript_order, .inl (cI, 32, .inl v_transcript_order_3)), (h_transcript_durations, .inl (cI, 32, .inl v_transcript_durations_4)), (h_transcript_pauses, .inl (cI, 32, .inl v_transcript_pauses_5)), (h_transcript_sizes, .inl (cI, 32, .inl v_transcript_sizes_6)), (h_transcript_words, .inl (cI, 256, .inl v_transcript_words_7)), (h_transcript_names, .inl (cJ, 24, .inr (.inl v_transcript_names_8))), (h_slots, .inr (7, [.int v_slots_slotCount_9, .ref h_slots_wishes, .ref h_slots_lengths, .ref h_slots_reaches])), (h_slots_wishes, .inl (cI, 5, .inl v_slots_wishes_10)), (h_slots_lengths, .inl (cI, 5, .inl v_slots_lengths_11)), (h_slots_reaches, .inl (cI, 5, .inl v_slots_reaches_12)), (h_kept, .inr (2, [.int v_kept_exists_13, .int v_kept_segmentCount_14, .int v_kept_total_15, .ref h_kept_rows, .ref h_kept_starts, .ref h_kept_durations])), (h_kept_rows, .inl (cI, 32, .inl v_kept_rows_16)), (h_kept_starts, .inl (cI, 32, .inl v_kept_starts_17)), (h_kept_durations, .inl (cI, 32, .inl v_kept_durations_18)), (h_settings, .inl (cI, 6, .inl v_settings)), (h_p1, .inr (6, [.ref h_p1_transcript, .ref h_p1_slots, .ref h_p1_kept, .ref h_p1_settings])), (h_p1_transcript, .inr (9, [.int v_p1_transcript_segmentCount, .int v_p1_transcript_wordCount, .ref h_p1_transcript_order, .ref h_p1_transcript_durations, .ref h_p1_transcript_pauses, .ref h_p1_transcript_sizes, .ref h_p1_transcript_words, .ref h_p1_transcript_names])), (h_p1_transcript_order, .inl (cI, 32, .inl v_p1_transcript_order)), (h_p1_transcript_durations, .inl (cI, 32, .inl v_p1_transcript_durations)), (h_p1_transcript_pauses, .inl (cI, 32, .inl v_p1_transcript_pauses)), (h_p1_transcript_sizes, .inl (cI, 32, .inl v_p1_transcript_sizes)), (h_p1_transcript_words, .inl (cI, 256, .inl v_p1_transcript_words)), (h_p1_transcript_names, .inl (cJ, 24, .inr (.inl v_p1_transcript_names))), (h_p1_slots, .inr (7, [.int v_p1_slots_slotCount, .ref h_p1_slots_wishes, .ref h_p1_slots_lengths, .ref h_p1_slots_reaches])), (h_p1_slots_wishes, .inl (cI, 5, .inl v_p1_slots_wishes)), (h_p1_slots_lengths, .inl (cI, 5, .inl v_p1_slots_lengths)), (h_p1_slots_reaches, .inl (cI, 5, .inl v_p1_slots_reaches)), (h_p1_kept, .inr (2, [.int v_p1_kept_exists, .int v_p1_kept_segmentCount, .int v_p1_kept_total, .ref h_p1_kept_rows, .ref h_p1_kept_starts, .ref h_p1_kept_durations])), (h_p1_kept_rows, .inl (cI, 32, .inl v_p1_kept_rows)), (h_p1_kept_starts, .inl (cI, 32, .inl v_p1_kept_starts)), (h_p1_kept_durations, .inl (cI, 32, .inl v_p1_kept_durations)), (h_p1_settings, .inl (cI, 6, .inl v_p1_settings))] [.ref h_p1_kept] [] (k_X2_copyFrom l D cI cJ cZ cO z h_kept h_kept_rows h_kept_starts h_kept_durations h_p1_kept h_p1_kept_rows h_p1_kept_starts h_p1_kept_durations v_kept_exists v_kept_segmentCount v_kept_total v_kept_rows v_kept_starts v_kept_durations v_p1_kept_exists v_p1_kept_segmentCount v_p1_kept_total v_p1_kept_rows v_p1_kept_starts v_p1_kept_durations v_kept_exists_13 v_kept_segmentCount_14 v_kept_total_15 v_kept_rows_16 v_kept_starts_17 v_kept_durations_18 hc_) gX6_copyFrom_X2_copyFrom rfl ⟨rfl, rfl⟩ hy_X2_copyFrom ⟨Nat.le_of_ble_eq_true rfl, Nat.le_of_ble_eq_true rfl⟩ rfl rfl rfl (q0 := 0) rfl rfl rfl (Nat.le_of_ble_eq_true rfl) rfl dX6_copyFrom_30 rfl rfl ?_
  refine gq_aload_n hC 1 dX6_copyFrom_33 rfl rfl ?_
  refine gq_get hC (kf := 3) 17 hin_X6 rfl rfl (by decide) hw_41 rfl dX6_copyFrom_34 ?_
  refine gq_iconst hC (0 : Int32) dX6_copyFrom_37 (by decide) ?_
  refine gq_aload_n hC 0 dX6_copyFrom_38 rfl rfl ?_
  refine gq_get hC (kf := 3) 0 hin_X6 rfl rfl (by decide) hw_41 rfl dX6_copyFrom_39 ?_
  refine gq_iconst hC (0 : Int32) dX6_copyFrom_42 (by decide) ?_
  refine gq_bipush hC (6 : Int32) dX6_copyFrom_43 (by decide) ?_
  refine gq_copyi hC 33 16 0 [(h_t_, .inr (6, [.ref h_transcript, .ref h_slots, .ref h_kept, .ref h_settings])), (h_transcript, .inr (9, [.int v_transcript_segmentCount_1, .int v_transcript_wordCount_2, .ref h_transcript_order, .ref h_transcript_durations, .ref h_transcript_pauses, .ref h_transcript_sizes, .ref h_transcript_words, .ref h_transcript_names])), (h_transcript_order, .inl (cI, 32, .inl v_transcript_order_3)), (h_transcript_durations, .inl (cI, 32, .inl v_transcript_durations_4)), (h_transcript_pauses, .inl (cI, 32, .inl v_transcript_pauses_5)), (h_transcript_sizes, .inl (cI, 32, .inl v_transcript_sizes_6)), (h_transcript_words, .inl (cI, 256, .inl v_transcript_words_7)), (h_transcript_names, .inl (cJ, 24, .inr (.inl v_transcript_names_8))), (h_slots, .inr (7, [.int v_slots_slotCount_9, .ref h_slots_wishes, .ref h_slots_lengths, .ref h_slots_reaches])), (h_slots_wishes, .inl (cI, 5, .inl v_slots_wishes_10)), (h_slots_lengths, .inl (cI, 5, .inl v_slots_lengths_11)), (h_slots_reaches, .inl (cI, 5, .inl v_slots_reaches_12)), (h_kept, .inr (2, [.int v_kept_exists_13, .int v_kept_segmentCount_14, .int v_kept_total_15, .ref h_kept_rows, .ref h_kept_starts, .ref h_kept_durations])), (h_kept_rows, .inl (cI, 32, .inl v_kept_rows_16)), (h_kept_starts, .inl (cI, 32, .inl v_kept_starts_17)), (h_kept_durations, .inl (cI, 32, .inl v_kept_durations_18)), (h_settings, .inl (cI, 6, .inl (va_cpy v_p1_settings v_settings (0 : Int32).toNatClampNeg (0 : Int32).toNatClampNeg (6 : Int32).toNatClampNeg))), (h_p1, .inr (6, [.ref h_p1_transcript, .ref h_p1_slots, .ref h_p1_kept, .ref h_p1_settings])), (h_p1_transcript, .inr (9, [.int v_p1_transcript_segmentCount, .int v_p1_transcript_wordCount, .ref h_p1_transcript_order, .ref h_p1_transcript_durations, .ref h_p1_transcript_pauses, .ref h_p1_transcript_sizes, .ref h_p1_transcript_words, .ref h_p1_transcript_names])), (h_p1_transcript_order, .inl (cI, 32, .inl v_p1_transcript_order)), (h_p1_transcript_durations, .inl (cI, 32, .inl v_p1_transcript_durations)), (h_p1_transcript_pauses, .inl (cI, 32, .inl v_p1_transcript_pauses)), (h_p1_transcript_sizes, .inl (cI, 32, .inl v_p1_transcript_sizes)), (h_p1_transcript_words, .inl (cI, 256, .inl v_p1_transcript_words)), (h_p1_transcript_names, .inl (cJ, 24, .inr (.inl v_p1_transcript_names))), (h_p1_slots, .inr (7, [.int v_p1_slots_slotCount, .ref h_p1_slots_wishes, .ref h_p1_slots_lengths, .ref h_p1_slots_reaches])), (h_p1_slots_wishes, .inl (cI, 5, .inl v_p1_slots_wishes)), (h_p1_slots_lengths, .inl (cI, 5, .inl v_p1_slots_lengths)), (h_p1_slots_reaches, .inl (cI, 5, .inl v_p1_slots_reaches)), (h_p1_kept, .inr (2, [.int v_p1_kept_exists, .int v_p1_kept_segmentCount, .int v_p1_kept_total, .ref h_p1_kept_rows, .ref h_p1_kept_starts, .ref h_p1_kept_durations])), (h_p1_kept_rows, .inl (cI, 32, .inl v_p1_kept_rows)), (h_p1_kept_starts, .inl (cI, 32, .inl v_p1_kept_starts)), (h_p1_kept_durations, .inl (cI, 32, .inl v_p1_kept_durations)), (h_p1_settings, .inl (cI, 6, .inl v_p1_settings))] ⟨by decide +kernel, by decide +kernel, by decide +kernel, by decide +kernel⟩ rfl rfl rfl (by decide) (by decide) (by decide) (by decide) (by decide) ⟨Nat.le_of_ble_eq_true rfl, by decide⟩ dX6_copyFrom_45 rfl ?_
  cases hF
  rw [hQ]
  exact gq_vret hC dX6_copyFrom_48
theorem hy_X6_clear : yX6_clear.cls = RX6 ∧ yX6_clear.cls ≠ "java/lang/invoke/MethodHandle" ∧ yX6_clear.cls ≠ "java/lang/invoke/VarHandle" ∧ (parseMethodDescriptor yX6_clear.desc).map (fun d => d.parameters.length) = some 0 := by decide +kernel
set_option maxRecDepth 20000 in
set_option maxHeartbeats 4000000 in
theorem k_X6_clear (l : Launch) (D : va_G) (cI cJ cZ cO : ClassId) (z : Nat → Nat)   (h_t_ : Nat) (h_transcript : Nat) (h_slots : Nat) (h_kept : Nat) (h_settings : Nat) (h_transcript_order : Nat) (h_transcript_durations : Nat) (h_transcript_pauses : Nat) (h_transcript_sizes : Nat) (h_transcript_words : Nat) (h_transcript_names : Nat) (h_slots_wishes : Nat) (h_slots_lengths : Nat) (h_slots_reaches : Nat) (h_kept_rows : Nat) (h_kept_starts : Nat) (h_kept_durations : Nat)  (v_transcript_segmentCount : Int32) (v_transcript_wordCount : Int32) (v_slots_slotCount : Int32) (v_kept_exists : Int32) (v_kept_segmentCount : Int32) (v_kept_total : Int32) (v_settings : Nat → Int32) (w_transcript_segmentCount : Int32) (w_transcript_wordCount : Int32) (w_slots_slotCount : Int32) (w_kept_exists : Int32) (w_settings : Nat → Int32) (hF : F_X6_clear v_transcript_segmentCount v_transcript_wordCount v_slots_slotCount v_kept_exists v_settings = some (w_transcript_segmentCount, w_transcript_wordCount, w_slots_slotCount, w_kept_exists, w_settings)) : Mv l yX6_clear wsX6_clear (rmD 1) D (gq_ty cI cJ cZ cO) z [.ref h_t_] [(h_t_, .inr (6, [.ref h_transcript, .ref h_slots, .ref h_kept, .ref h_settings])), (h_transcript, .inr (9, [.int v_transcript_segmentCount, .int v_transcript_wordCount, .ref h_transcript_order, .ref h_transcript_durations, .ref h_transcript_pauses, .ref h_transcript_sizes, .ref h_transcript_words, .ref h_transcript_names])), (h_slots, .inr (7, [.int v_slots_slotCount, .ref h_slots_wishes, .ref h_slots_lengths, .ref h_slots_reaches])), (h_kept, .inr (2, [.int v_kept_exists, .int v_kept_segmentCount, .int v_kept_total, .ref h_kept_rows, .ref h_kept_starts, .ref h_kept_durations])), (h_settings, .inl (cI, 6, .inl v_settings))] [(h_t_, .inr (6, [.ref h_transcript, .ref h_slots, .ref h_kept, .ref h_settings])), (h_transcript, .inr (9, [.int w_transcript_segmentCount, .int w_transcript_wordCount, .ref h_transcript_order, .ref h_transcript_durations, .ref h_transcript_pauses, .ref h_transcript_sizes, .ref h_transcript_words, .ref h_transcript_names])), (h_slots, .inr (7, [.int w_slots_slotCount, .ref h_slots_wishes, .ref h_slots_lengths, .ref h_slots_reaches])), (h_kept, .inr (2, [.int w_kept_exists, .int v_kept_segmentCount, .int v_kept_total, .ref h_kept_rows, .ref h_kept_starts, .ref h_kept_durations])), (h_settings, .inl (cI, 6, .inl w_settings))] 0 0 := by
  refine Mv.of (cc := cX6_clear) (maxL := 1) (by decide) rfl (Nat.le_of_ble_eq_true rfl) ⟨Nat.le_refl 0, Nat.le_refl 0⟩ ?_
  intro p e s m args below meth c A hC ha
  have hin_X2 : ∀ w ∈ wsX20, w ∈ wsX6_clear := by decide +kernel
  have hin_X6 : ∀ w ∈ wsX60, w ∈ wsX6_clear := by decide +kernel
  have hin_X7 : ∀ w ∈ wsX70, w ∈ wsX6_clear := by decide +kernel
  have hw_12 : Cond.fieldLink RX6 12 (TX6 0).1 (TX6 0).2.1 (TX6 0).2.2.1 ∈ wsX6_clear := by decide +kernel
  have hw_21 : Cond.fieldLink RX6 21 (TX6 1).1 (TX6 1).2.1 (TX6 1).2.2.1 ∈ wsX6_clear := by decide +kernel
  have hw_28 : Cond.fieldLink RX6 28 (TX6 2).1 (TX6 2).2.1 (TX6 2).2.2.1 ∈ wsX6_clear := by decide +kernel
  have hw_41 : Cond.fieldLink RX6 41 (TX6 3).1 (TX6 3).2.1 (TX6 3).2.2.1 ∈ wsX6_clear := by decide +kernel
  have hw_47 : Cond.fieldLink RX6 47 (TX7 0).1 (TX7 0).2.1 (TX7 0).2.2.1 ∈ wsX6_clear := by decide +kernel
  have hw_51 : Cond.fieldLink RX6 51 (TX2 0).1 (TX2 0).2.1 (TX2 0).2.2.1 ∈ wsX6_clear := by decide +kernel
  obtain ⟨Q, hQ⟩ : ∃ Q, Q = gq_Qv below D A args s [(h_t_, .inr (6, [.ref h_transcript, .ref h_slots, .ref h_kept, .ref h_settings])), (h_transcript, .inr (9, [.int w_transcript_segmentCount, .int w_transcript_wordCount, .ref h_transcript_order, .ref h_transcript_durations, .ref h_transcript_pauses, .ref h_transcript_sizes, .ref h_transcript_words, .ref h_transcript_names])), (h_slots, .inr (7, [.int w_slots_slotCount, .ref h_slots_wishes, .ref h_slots_lengths, .ref h_slots_reaches])), (h_kept, .inr (2, [.int w_kept_exists, .int v_kept_segmentCount, .int v_kept_total, .ref h_kept_rows, .ref h_kept_starts, .ref h_kept_durations])), (h_settings, .inl (cI, 6, .inl w_settings))] 0 0 := ⟨_, rfl⟩
  rw [← hQ]
  refine gq_loc [(0, .ref h_t_)] rfl ?_
  unfold F_X6_clear at hF
  refine gq_aload_n hC 0 dX6_clear_0 rfl rfl ?_
  refine gq_get hC (kf := 0) 0 hin_X6 rfl rfl (by decide) hw_12 rfl dX6_clear_1 ?_
  obtain ⟨v_transcript_segmentCount_1, v_transcript_wordCount_2, hc_, hF⟩ := ob2_e hF
  refine gq_callVv hC [1] [(h_t_, .inr (6, [.ref h_transcript, .ref h_slots, .ref h_kept, .ref h_settings])), (h_transcript, .inr (9, [.int v_transcript_segmentCount_1, .int v_transcript_wordCount_2, .ref h_transcript_order, .ref h_transcript_durations, .ref h_transcript_pauses, .ref h_transcript_sizes, .ref h_transcript_words, .ref h_transcript_names])), (h_slots, .inr (7, [.int v_slots_slotCount, .ref h_slots_wishes, .ref h_slots_lengths, .ref h_slots_reaches])), (h_kept, .inr (2, [.int v_kept_exists, .int v_kept_segmentCount, .int v_kept_total, .ref h_kept_rows, .ref h_kept_starts, .ref h_kept_durations])), (h_settings, .inl (cI, 6, .inl v_settings))] [] [] (k_X9_clear l D cI cJ cZ cO z h_transcript h_transcript_order h_transcript_durations h_transcript_pauses h_transcript_sizes h_transcript_words h_transcript_names v_transcript_segmentCount v_transcript_wordCount v_transcript_segmentCount_1 v_transcript_wordCount_2 hc_) gX6_clear_X9_clear rfl ⟨rfl, rfl⟩ hy_X9_clear ⟨Nat.le_of_ble_eq_true rfl, Nat.le_of_ble_eq_true rfl⟩ rfl rfl rfl (q0 := 0) rfl rfl rfl (Nat.le_of_ble_eq_true rfl) rfl dX6_clear_4 rfl rfl ?_
  refine gq_aload_n hC 0 dX6_clear_7 rfl rfl ?_
  refine gq_get hC (kf := 1) 0 hin_X6 rfl rfl (by decide) hw_21 rfl dX6_clear_8 ?_
  refine gq_iconst hC (0 : Int32) dX6_clear_11 (by decide) ?_
  refine gq_put1 hC (kf := 0) 2 [(h_t_, .inr (6, [.ref h_transcript, .ref h_slots, .ref h_kept, .ref h_settings])), (h_transcript, .inr (9, [.int v_transcript_segmentCount_1, .int v_transcript_wordCount_2, .ref h_transcript_order, .ref h_transcript_durations, .ref h_transcript_pauses, .ref h_transcript_sizes, .ref h_transcript_words, .ref h_transcript_names])), (h_slots, .inr (7, [.int (0 : Int32), .ref h_slots_wishes, .ref h_slots_lengths, .ref h_slots_reaches])), (h_kept, .inr (2, [.int v_kept_exists, .int v_kept_segmentCount, .int v_kept_total, .ref h_kept_rows, .ref h_kept_starts, .ref h_kept_durations])), (h_settings, .inl (cI, 6, .inl v_settings))] tyX7 tyX7_ok nmX7 hin_X7 rfl rfl (by decide) hw_47 rfl rfl rfl (Nat.le_of_ble_eq_true rfl) dX6_clear_12 rfl ?_
  refine gq_aload_n hC 0 dX6_clear_15 rfl rfl ?_
  refine gq_get hC (kf := 2) 0 hin_X6 rfl rfl (by decide) hw_28 rfl dX6_clear_16 ?_
  refine gq_iconst hC (0 : Int32) dX6_clear_19 (by decide) ?_
  refine gq_put1 hC (kf := 0) 3 [(h_t_, .inr (6, [.ref h_transcript, .ref h_slots, .ref h_kept, .ref h_settings])), (h_transcript, .inr (9, [.int v_transcript_segmentCount_1, .int v_transcript_wordCount_2, .ref h_transcript_order, .ref h_transcript_durations, .ref h_transcript_pauses, .ref h_transcript_sizes, .ref h_transcript_words, .ref h_transcript_names])), (h_slots, .inr (7, [.int (0 : Int32), .ref h_slots_wishes, .ref h_slots_lengths, .ref h_slots_reaches])), (h_kept, .inr (2, [.int (0 : Int32), .int v_kept_segmentCount, .int v_kept_total, .ref h_kept_rows, .ref h_kept_starts, .ref h_kept_durations])), (h_settings, .inl (cI, 6, .inl v_settings))] tyX2 tyX2_ok nmX2 hin_X2 rfl rfl (by decide) hw_51 rfl rfl rfl (Nat.le_of_ble_eq_true rfl) dX6_clear_20 rfl ?_
  refine gq_getsN hC (host := RX10) hC.2.2.2.2.2.2.2.2.2.2.2.2.1 hC.2.2.2.2.2.1.2.2.2.2.2 dX6_clear_23 ?_
  refine gq_iconst hC (0 : Int32) dX6_clear_26 (by decide) ?_
  refine gq_aload_n hC 0 dX6_clear_27 rfl rfl ?_
  refine gq_get hC (kf := 3) 0 hin_X6 rfl rfl (by decide) hw_41 rfl dX6_clear_28 ?_
  refine gq_iconst hC (0 : Int32) dX6_clear_31 (by decide) ?_
  refine gq_bipush hC (6 : Int32) dX6_clear_32 (by decide) ?_
  refine gq_copys hC hC.2.2.2.2.2.2.2.2.2.2.2.2.1 4 0 [(h_t_, .inr (6, [.ref h_transcript, .ref h_slots, .ref h_kept, .ref h_settings])), (h_transcript, .inr (9, [.int v_transcript_segmentCount_1, .int v_transcript_wordCount_2, .ref h_transcript_order, .ref h_transcript_durations, .ref h_transcript_pauses, .ref h_transcript_sizes, .ref h_transcript_words, .ref h_transcript_names])), (h_slots, .inr (7, [.int (0 : Int32), .ref h_slots_wishes, .ref h_slots_lengths, .ref h_slots_reaches])), (h_kept, .inr (2, [.int (0 : Int32), .int v_kept_segmentCount, .int v_kept_total, .ref h_kept_rows, .ref h_kept_starts, .ref h_kept_durations])), (h_settings, .inl (cI, 6, .inl (va_cpy gq_first v_settings (0 : Int32).toNatClampNeg (0 : Int32).toNatClampNeg (6 : Int32).toNatClampNeg)))] ⟨by decide +kernel, by decide +kernel, by decide +kernel, by decide +kernel⟩ rfl rfl (by decide) (by decide) (by decide) (by decide) (by decide) ⟨Nat.le_of_ble_eq_true rfl, by decide⟩ dX6_clear_34 rfl ?_
  cases hF
  rw [hQ]
  exact gq_vret hC dX6_clear_37
