def F_X11_append_b87 (k : Int32 × (Int32) × (Nat → Int32) → Option (((Int32) × (Nat → Int32)))) (x1 : Int32) (x2 : Int32) (x3 : Int32) (x4 : Int32) (x5 : Int32) (l6_9 : Int32) (st_10 : Int32) (v_thrown_6 : Int32) (v_buffered_11 : Int32) (v_buffer_12 : Nat → Int32) : Option (((Int32) × (Nat → Int32))) := gzi (4 : Int32) (gi v_buffered_11 900 (k ((l6_9 + (1 : Int32)), (v_buffered_11 + (1 : Int32)), (upd v_buffer_12 v_buffered_11.toNatClampNeg ((st_10 >>> (((24 : Int32) - ((8 : Int32) * (l6_9 - l6_9 / (4 : Int32) * (4 : Int32)))) &&& 31)) &&& (255 : Int32))))))
def S_X11_append_34 (x1 : Int32) (x2 : Int32) (x3 : Int32) (x4 : Int32) (x5 : Int32) (v_thrown_6 : Int32) (k : Int32 × (Int32) × (Nat → Int32) → Option (((Int32) × (Nat → Int32)))) (l6_5 : Int32) (v_buffered_7 : Int32) (v_buffer_8 : Nat → Int32) : Option (((Int32) × (Nat → Int32))) := if (20 : Int32) ≤ l6_5 then (some (v_buffered_7, v_buffer_8)) else (if (4 : Int32) ≤ l6_5 then (if (8 : Int32) ≤ l6_5 then (if (12 : Int32) ≤ l6_5 then (if (16 : Int32) ≤ l6_5 then (F_X11_append_b87 k x1 x2 x3 x4 x5 l6_5 x5 v_thrown_6 v_buffered_7 v_buffer_8) else (F_X11_append_b87 k x1 x2 x3 x4 x5 l6_5 x4 v_thrown_6 v_buffered_7 v_buffer_8)) else (F_X11_append_b87 k x1 x2 x3 x4 x5 l6_5 x3 v_thrown_6 v_buffered_7 v_buffer_8)) else (F_X11_append_b87 k x1 x2 x3 x4 x5 l6_5 x2 v_thrown_6 v_buffered_7 v_buffer_8)) else (F_X11_append_b87 k x1 x2 x3 x4 x5 l6_5 x1 v_thrown_6 v_buffered_7 v_buffer_8))
def F_X11_append_b19 (x1 : Int32) (x2 : Int32) (x3 : Int32) (x4 : Int32) (x5 : Int32) (st_1 : Int32) (v_thrown_2 : Int32) (v_buffered_3 : Int32) (v_buffer_4 : Nat → Int32) : Option (Int32 × (Int32) × (Int32) × (Nat → Int32)) := if st_1 ≤ 0 then (ob2 (wh (fun k q => S_X11_append_34 x1 x2 x3 x4 x5 st_1 k q.1 q.2.1 q.2.2) wF ((0 : Int32), v_buffered_3, v_buffer_4)) (fun e_22 e_23 => some (e_22, st_1, e_22, e_23))) else (some ((0 : Int32), st_1, v_buffered_3, v_buffer_4))
def F_X11_append (x1 : Int32) (x2 : Int32) (x3 : Int32) (x4 : Int32) (x5 : Int32) (v_thrown : Int32) (v_buffered : Int32) (v_buffer : Nat → Int32) : Option (Int32 × (Int32) × (Int32) × (Nat → Int32)) := if (v_buffered + (20 : Int32)) ≤ (900 : Int32) then (F_X11_append_b19 x1 x2 x3 x4 x5 (0 : Int32) v_thrown v_buffered v_buffer) else (F_X11_append_b19 x1 x2 x3 x4 x5 (1 : Int32) v_thrown v_buffered v_buffer)
def S_X11_undo_37 (v_keptMany_6 : Int32) (v_thrown_7 : Int32) (v_kept : Nat → Int64) (k : Int32 × (Nat → Int64) → Option (((Nat → Int64)))) (l1_5 : Int32) (v_a_8 : Nat → Int64) : Option (((Nat → Int64))) := if (499 : Int32) ≤ l1_5 then (some (v_a_8)) else (gi (((499 : Int32) * v_keptMany_6) + l1_5) 3992 (gi l1_5 499 (k ((l1_5 + (1 : Int32)), (vp_updL v_a_8 l1_5.toNatClampNeg (v_kept (((499 : Int32) * v_keptMany_6) + l1_5).toNatClampNeg))))))
def F_X11_undo_b13 (st_1 : Int32) (v_keptMany_2 : Int32) (v_thrown_3 : Int32) (v_a_4 : Nat → Int64) (v_kept : Nat → Int64) : Option (Int32 × (Int32) × (Int32) × (Nat → Int64)) := if st_1 ≤ 0 then (ob1 (wh (fun k q => S_X11_undo_37 (v_keptMany_2 - (1 : Int32)) st_1 v_kept k q.1 q.2) wF ((0 : Int32), v_a_4)) (fun e_13 => some ((v_keptMany_2 - (1 : Int32)), (v_keptMany_2 - (1 : Int32)), st_1, e_13))) else (some ((0 : Int32), v_keptMany_2, st_1, v_a_4))
def F_X11_undo (v_keptMany : Int32) (v_thrown : Int32) (v_a : Nat → Int64) (v_kept : Nat → Int64) : Option (Int32 × (Int32) × (Int32) × (Nat → Int64)) := if v_keptMany = 0 then (F_X11_undo_b13 (1 : Int32) v_keptMany v_thrown v_a v_kept) else (F_X11_undo_b13 (0 : Int32) v_keptMany v_thrown v_a v_kept)
def F_X11_chapters (v_thrown : Int32) (v_toCut : Int32) (v_toLeave : Int32) (v_a : Nat → Int64) (v_worthFrom : Nat → Int32) (v_cutsFrom : Nat → Int32) (v_endFrom : Nat → Int32) (v_changes : Nat → Int32) (v_waysFrom : Nat → Int64) : Option (Int32 × (Int32) × (Nat → Int32) × (Nat → Int32) × (Nat → Int32) × (Nat → Int32) × (Nat → Int64)) := ob6 (F_X11_hasBest v_toCut v_toLeave v_a v_worthFrom v_cutsFrom v_endFrom v_changes v_waysFrom) (fun r_1 v_worthFrom_2 v_cutsFrom_3 v_endFrom_4 v_changes_5 v_waysFrom_6 => if r_1 = 0 then (some ((-1 : Int32), (0 : Int32), v_worthFrom_2, v_cutsFrom_3, v_endFrom_4, v_changes_5, v_waysFrom_6)) else (gi (0 : Int32) 33 (some (((1 : Int32) + (v_cutsFrom_3 (0 : Int32).toNatClampNeg)), (0 : Int32), v_worthFrom_2, v_cutsFrom_3, v_endFrom_4, v_changes_5, v_waysFrom_6))))
def F_X11_worth_b13 (st_1 : Int32) (v_thrown_2 : Int32) (v_worthFrom_3 : Nat → Int32) (v_cutsFrom_4 : Nat → Int32) (v_endFrom_5 : Nat → Int32) (v_changes_6 : Nat → Int32) (v_waysFrom_7 : Nat → Int64) : Option (Int32 × (Int32) × (Nat → Int32) × (Nat → Int32) × (Nat → Int32) × (Nat → Int32) × (Nat → Int64)) := if st_1 ≤ 0 then (gi (0 : Int32) 33 (some ((v_worthFrom_3 (0 : Int32).toNatClampNeg), st_1, v_worthFrom_3, v_cutsFrom_4, v_endFrom_5, v_changes_6, v_waysFrom_7))) else (some ((0 : Int32), st_1, v_worthFrom_3, v_cutsFrom_4, v_endFrom_5, v_changes_6, v_waysFrom_7))
def F_X11_worth (v_thrown : Int32) (v_toCut : Int32) (v_toLeave : Int32) (v_a : Nat → Int64) (v_worthFrom : Nat → Int32) (v_cutsFrom : Nat → Int32) (v_endFrom : Nat → Int32) (v_changes : Nat → Int32) (v_waysFrom : Nat → Int64) : Option (Int32 × (Int32) × (Nat → Int32) × (Nat → Int32) × (Nat → Int32) × (Nat → Int32) × (Nat → Int64)) := ob6 (F_X11_hasBest v_toCut v_toLeave v_a v_worthFrom v_cutsFrom v_endFrom v_changes v_waysFrom) (fun r_10 v_worthFrom_11 v_cutsFrom_12 v_endFrom_13 v_changes_14 v_waysFrom_15 => if r_10 = 0 then (F_X11_worth_b13 (1 : Int32) v_thrown v_worthFrom_11 v_cutsFrom_12 v_endFrom_13 v_changes_14 v_waysFrom_15) else (F_X11_worth_b13 (0 : Int32) v_thrown v_worthFrom_11 v_cutsFrom_12 v_endFrom_13 v_changes_14 v_waysFrom_15))
def F_X11_noChapter (x1 : Int32) (v_toCut : Int32) (v_toLeave : Int32) (v_a : Nat → Int64) (v_worthFrom : Nat → Int32) (v_cutsFrom : Nat → Int32) (v_endFrom : Nat → Int32) (v_changes : Nat → Int32) (v_waysFrom : Nat → Int64) : Option (Int32 × (Nat → Int32) × (Nat → Int32) × (Nat → Int32) × (Nat → Int32) × (Nat → Int64)) := ob6 (F_X11_hasBest v_toCut v_toLeave v_a v_worthFrom v_cutsFrom v_endFrom v_changes v_waysFrom) (fun r_1 v_worthFrom_2 v_cutsFrom_3 v_endFrom_4 v_changes_5 v_waysFrom_6 => if r_1 = 0 then (some ((1 : Int32), v_worthFrom_2, v_cutsFrom_3, v_endFrom_4, v_changes_5, v_waysFrom_6)) else (gi (0 : Int32) 33 (ob1 (F_X11_isIn (x1.toInt64) (0 : Int64) ((v_cutsFrom_3 (0 : Int32).toNatClampNeg).toInt64)) (fun r_8 => if r_8 = 0 then (some ((2 : Int32), v_worthFrom_2, v_cutsFrom_3, v_endFrom_4, v_changes_5, v_waysFrom_6)) else (some ((0 : Int32), v_worthFrom_2, v_cutsFrom_3, v_endFrom_4, v_changes_5, v_waysFrom_6))))))
def S_X11_different_5 (x1 : Int32) (x2 : Int32) (v_a : Nat → Int64) (k : Int32 × Int32 → Option ((Int32))) (l3_1 : Int32) (l4_2 : Int32) : Option ((Int32)) := gi (7 : Int32) 499 (if 0 ≤ (lg_cmp (l4_2.toInt64) (v_a (7 : Int32).toNatClampNeg)) then (some (l3_1)) else (ob1 (F_X11_usesIn l4_2 x1 x2 v_a) (fun r_4 => if r_4 ≤ 0 then (k ((l3_1 + (0 : Int32)), (l4_2 + (1 : Int32)))) else (k ((l3_1 + (1 : Int32)), (l4_2 + (1 : Int32)))))))
def F_X11_different (x1 : Int32) (x2 : Int32) (v_a : Nat → Int64) : Option (Int32) := ob1 (wh (fun k q => S_X11_different_5 x1 x2 v_a k q.1 q.2) wF ((0 : Int32), (0 : Int32))) (fun e_8 => some e_8)
def F_X11_chapter_b33 (x1 : Int32) (x2 : Int32) (v_thrown_1 : Int32) (v_toCut : Int32) (v_toLeave : Int32) (v_a : Nat → Int64) (v_worthFrom_2 : Nat → Int32) (v_cutsFrom_3 : Nat → Int32) (v_endFrom_4 : Nat → Int32) (v_changes_5 : Nat → Int32) (v_waysFrom_6 : Nat → Int64) (v_costAt_7 : Nat → Int32) (v_places_8 : Nat → Int32) (v_isCut_9 : Nat → Int32) : Option (Int32 × (Int32) × (Nat → Int32) × (Nat → Int32) × (Nat → Int32) × (Nat → Int32) × (Nat → Int64) × (Nat → Int32) × (Nat → Int32) × (Nat → Int32)) := if v_thrown_1 ≤ 0 then (ob1 (F_X11_beginOf x1 v_endFrom_4) (fun r_10 => gi r_10 33 (if x2 = 0 then (some (r_10, v_thrown_1, v_worthFrom_2, v_cutsFrom_3, v_endFrom_4, v_changes_5, v_waysFrom_6, v_costAt_7, v_places_8, v_isCut_9)) else (if x2 = 1 then (some ((v_endFrom_4 r_10.toNatClampNeg), v_thrown_1, v_worthFrom_2, v_cutsFrom_3, v_endFrom_4, v_changes_5, v_waysFrom_6, v_costAt_7, v_places_8, v_isCut_9)) else (if x2 = 2 then (ob1 (F_X11_spoken ((v_endFrom_4 r_10.toNatClampNeg) + (1 : Int32)) v_a) (fun r_26 => ob1 (F_X11_spoken r_10 v_a) (fun r_27 => some ((r_26 - r_27), v_thrown_1, v_worthFrom_2, v_cutsFrom_3, v_endFrom_4, v_changes_5, v_waysFrom_6, v_costAt_7, v_places_8, v_isCut_9)))) else (if x2 = 3 then (ob1 (F_X11_different r_10 (v_endFrom_4 r_10.toNatClampNeg) v_a) (fun r_25 => some (r_25, v_thrown_1, v_worthFrom_2, v_cutsFrom_3, v_endFrom_4, v_changes_5, v_waysFrom_6, v_costAt_7, v_places_8, v_isCut_9))) else (ob9 (F_X11_realTime r_10 v_toCut v_toLeave v_a v_worthFrom_2 v_cutsFrom_3 v_endFrom_4 v_changes_5 v_waysFrom_6 v_costAt_7 v_places_8 v_isCut_9) (fun r_12 v_worthFrom_13 v_cutsFrom_14 v_endFrom_15 v_changes_16 v_waysFrom_17 v_costAt_18 v_places_19 v_isCut_20 => some (r_12, v_thrown_1, v_worthFrom_13, v_cutsFrom_14, v_endFrom_15, v_changes_16, v_waysFrom_17, v_costAt_18, v_places_19, v_isCut_20))))))))) else (some ((0 : Int32), v_thrown_1, v_worthFrom_2, v_cutsFrom_3, v_endFrom_4, v_changes_5, v_waysFrom_6, v_costAt_7, v_places_8, v_isCut_9))
def F_X11_chapter (x1 : Int32) (x2 : Int32) (v_thrown : Int32) (v_toCut : Int32) (v_toLeave : Int32) (v_a : Nat → Int64) (v_worthFrom : Nat → Int32) (v_cutsFrom : Nat → Int32) (v_endFrom : Nat → Int32) (v_changes : Nat → Int32) (v_waysFrom : Nat → Int64) (v_costAt : Nat → Int32) (v_places : Nat → Int32) (v_isCut : Nat → Int32) : Option (Int32 × (Int32) × (Nat → Int32) × (Nat → Int32) × (Nat → Int32) × (Nat → Int32) × (Nat → Int64) × (Nat → Int32) × (Nat → Int32) × (Nat → Int32)) := ob6 (F_X11_noChapter x1 v_toCut v_toLeave v_a v_worthFrom v_cutsFrom v_endFrom v_changes v_waysFrom) (fun r_29 v_worthFrom_30 v_cutsFrom_31 v_endFrom_32 v_changes_33 v_waysFrom_34 => if r_29 = 0 then (ob1 (F_X11_isIn (x2.toInt64) (0 : Int64) (4 : Int64)) (fun r_35 => if r_35 = 0 then (F_X11_chapter_b33 x1 x2 (3 : Int32) v_toCut v_toLeave v_a v_worthFrom_30 v_cutsFrom_31 v_endFrom_32 v_changes_33 v_waysFrom_34 v_costAt v_places v_isCut) else (F_X11_chapter_b33 x1 x2 r_29 v_toCut v_toLeave v_a v_worthFrom_30 v_cutsFrom_31 v_endFrom_32 v_changes_33 v_waysFrom_34 v_costAt v_places v_isCut))) else (F_X11_chapter_b33 x1 x2 r_29 v_toCut v_toLeave v_a v_worthFrom_30 v_cutsFrom_31 v_endFrom_32 v_changes_33 v_waysFrom_34 v_costAt v_places v_isCut))
def S_X11_chapterAt_4 (x1 : Int32) (v_endFrom : Nat → Int32) (k : Int32 × Int32 → Option ((Int32))) (l2_1 : Int32) (l3_2 : Int32) : Option ((Int32)) := gi l3_2 33 (if x1 ≤ (v_endFrom l3_2.toNatClampNeg) then (some (l2_1)) else (gi l3_2 33 (k ((l2_1 + (1 : Int32)), ((v_endFrom l3_2.toNatClampNeg) + (1 : Int32))))))
def F_X11_chapterAt (x1 : Int32) (v_endFrom : Nat → Int32) : Option (Int32) := ob1 (wh (fun k q => S_X11_chapterAt_4 x1 v_endFrom k q.1 q.2) wF ((0 : Int32), (0 : Int32))) (fun e_7 => some e_7)
def F_X11_chapterOf_b14 (x1 : Int32) (st_1 : Int32) (v_thrown_2 : Int32) (v_toCut : Int32) (v_toLeave : Int32) (v_a : Nat → Int64) (v_worthFrom_3 : Nat → Int32) (v_cutsFrom_4 : Nat → Int32) (v_endFrom_5 : Nat → Int32) (v_changes_6 : Nat → Int32) (v_waysFrom_7 : Nat → Int64) : Option (Int32 × (Int32) × (Nat → Int32) × (Nat → Int32) × (Nat → Int32) × (Nat → Int32) × (Nat → Int64)) := if st_1 ≤ 0 then (ob6 (F_X11_hasBest v_toCut v_toLeave v_a v_worthFrom_3 v_cutsFrom_4 v_endFrom_5 v_changes_6 v_waysFrom_7) (fun r_8 v_worthFrom_9 v_cutsFrom_10 v_endFrom_11 v_changes_12 v_waysFrom_13 => if r_8 = 0 then (some ((-1 : Int32), st_1, v_worthFrom_9, v_cutsFrom_10, v_endFrom_11, v_changes_12, v_waysFrom_13)) else (ob1 (F_X11_chapterAt x1 v_endFrom_11) (fun r_14 => some (r_14, st_1, v_worthFrom_9, v_cutsFrom_10, v_endFrom_11, v_changes_12, v_waysFrom_13))))) else (some ((0 : Int32), st_1, v_worthFrom_3, v_cutsFrom_4, v_endFrom_5, v_changes_6, v_waysFrom_7))
def F_X11_chapterOf (x1 : Int32) (v_thrown : Int32) (v_toCut : Int32) (v_toLeave : Int32) (v_a : Nat → Int64) (v_worthFrom : Nat → Int32) (v_cutsFrom : Nat → Int32) (v_endFrom : Nat → Int32) (v_changes : Nat → Int32) (v_waysFrom : Nat → Int64) : Option (Int32 × (Int32) × (Nat → Int32) × (Nat → Int32) × (Nat → Int32) × (Nat → Int32) × (Nat → Int64)) := ob1 (F_X11_isSegment x1 v_a) (fun r_17 => if r_17 = 0 then (F_X11_chapterOf_b14 x1 (1 : Int32) v_thrown v_toCut v_toLeave v_a v_worthFrom v_cutsFrom v_endFrom v_changes v_waysFrom) else (F_X11_chapterOf_b14 x1 (0 : Int32) v_thrown v_toCut v_toLeave v_a v_worthFrom v_cutsFrom v_endFrom v_changes v_waysFrom))
def F_X11_areCuts_b25 (st_1 : Int64) (st_2 : Int64) (st_3 : Int64) : Option (Int32) := ob1 (F_X11_isIn st_3 st_2 st_1) (fun r_4 => gb r_4 (some r_4))
def F_X11_areCuts (x1 : Int32) (v_a : Nat → Int64) : Option (Int32) := ob1 (F_X11_many v_a) (fun r_6 => if (2 : Int32) ≤ r_6 then (ob1 (F_X11_many v_a) (fun r_7 => F_X11_areCuts_b25 (((1 : Int64) <<< ((r_7 - (1 : Int32)).toInt64 &&& 63)) - (1 : Int64)) (0 : Int64) (x1.toInt64))) else (F_X11_areCuts_b25 (0 : Int64) (0 : Int64) (x1.toInt64)))
def F_X11_has (x0 : Int32) (x1 : Int32) : Option (Int32) := if ((x0 >>> (x1 &&& 31)) &&& (1 : Int32)) = (1 : Int32) then (some (1 : Int32)) else (some (0 : Int32))
def S_X11_worthOf_30 (x1 : Int32) (v_thrown_5 : Int32) (v_a : Nat → Int64) (k : Int32 × Int32 → Option ((Int32))) (l2_3 : Int32) (l3_4 : Int32) : Option ((Int32)) := ob1 (F_X11_many v_a) (fun r_6 => if (r_6 - (1 : Int32)) ≤ l3_4 then (some (l2_3)) else (ob1 (F_X11_has x1 l3_4) (fun r_7 => if r_7 = 0 then (k ((l2_3 + (0 : Int32)), (l3_4 + (1 : Int32)))) else (ob1 (F_X11_changeOf l3_4 v_a) (fun r_8 => gi (3 : Int32) 499 (k ((l2_3 + (r_8 - ((v_a (3 : Int32).toNatClampNeg).toInt32))), (l3_4 + (1 : Int32)))))))))
def F_X11_worthOf_b14 (x1 : Int32) (st_1 : Int32) (v_thrown_2 : Int32) (v_a : Nat → Int64) : Option (Int32 × (Int32)) := if st_1 ≤ 0 then (ob1 (wh (fun k q => S_X11_worthOf_30 x1 st_1 v_a k q.1 q.2) wF ((0 : Int32), (0 : Int32))) (fun e_13 => some (e_13, st_1))) else (some ((0 : Int32), st_1))
def F_X11_worthOf (x1 : Int32) (v_thrown : Int32) (v_a : Nat → Int64) : Option (Int32 × (Int32)) := ob1 (F_X11_areCuts x1 v_a) (fun r_15 => if r_15 = 0 then (F_X11_worthOf_b14 x1 (1 : Int32) v_thrown v_a) else (F_X11_worthOf_b14 x1 (0 : Int32) v_thrown v_a))
def F_X11_isAllowed_b66 (k : Int32 × Int32 → Option ((Unit) ⊕ (Unit))) (x1 : Int32) (l2_7 : Int32) (l3_8 : Int32) (v_thrown_6 : Int32) (v_toCut : Int32) (v_toLeave : Int32) (v_a : Nat → Int64) : Option ((Unit) ⊕ (Unit)) := ob1 (F_X11_isChapter l2_7 l3_8 v_toCut v_toLeave v_a) (fun r_9 => if r_9 = 0 then (some (.inl ())) else (k ((l3_8 + (1 : Int32)), (l3_8 + (1 : Int32)))))
def S_X11_isAllowed_37 (x1 : Int32) (v_thrown_6 : Int32) (v_toCut : Int32) (v_toLeave : Int32) (v_a : Nat → Int64) (k : Int32 × Int32 → Option ((Unit) ⊕ (Unit))) (l2_4 : Int32) (l3_5 : Int32) : Option ((Unit) ⊕ (Unit)) := ob1 (F_X11_many v_a) (fun r_11 => if r_11 ≤ l3_5 then (some (.inr ())) else (ob1 (F_X11_many v_a) (fun r_12 => if (r_12 - (1 : Int32)) ≤ l3_5 then (F_X11_isAllowed_b66 k x1 l2_4 l3_5 v_thrown_6 v_toCut v_toLeave v_a) else (ob1 (F_X11_has x1 l3_5) (fun r_13 => if r_13 = 0 then (k (l2_4, (l3_5 + (1 : Int32)))) else (F_X11_isAllowed_b66 k x1 l2_4 l3_5 v_thrown_6 v_toCut v_toLeave v_a))))))
def F_X11_isAllowed_b14 (x1 : Int32) (st_1 : Int32) (v_thrown_2 : Int32) (v_toCut : Int32) (v_toLeave : Int32) (v_a : Nat → Int64) : Option (Int32 × (Int32)) := if 0 < st_1 then (some ((0 : Int32), st_1)) else (ob1 (F_X11_many v_a) (fun r_3 => if r_3 = 0 then (some ((0 : Int32), st_1)) else (ob1 (wh (fun k q => S_X11_isAllowed_37 x1 st_1 v_toCut v_toLeave v_a k q.1 q.2) wF ((0 : Int32), (0 : Int32))) (Sum.elim (un1 (fun _u => some ((0 : Int32), st_1))) (un1 (fun _u => some ((1 : Int32), st_1)))))))
def F_X11_isAllowed (x1 : Int32) (v_thrown : Int32) (v_toCut : Int32) (v_toLeave : Int32) (v_a : Nat → Int64) : Option (Int32 × (Int32)) := ob1 (F_X11_areCuts x1 v_a) (fun r_21 => if r_21 = 0 then (F_X11_isAllowed_b14 x1 (1 : Int32) v_thrown v_toCut v_toLeave v_a) else (F_X11_isAllowed_b14 x1 (0 : Int32) v_thrown v_toCut v_toLeave v_a))
def F_X11_divisions (v_thrown : Int32) (v_toCut : Int32) (v_toLeave : Int32) (v_a : Nat → Int64) (v_worthFrom : Nat → Int32) (v_cutsFrom : Nat → Int32) (v_endFrom : Nat → Int32) (v_changes : Nat → Int32) (v_waysFrom : Nat → Int64) : Option (Int64 × (Int32) × (Nat → Int32) × (Nat → Int32) × (Nat → Int32) × (Nat → Int32) × (Nat → Int64)) := ob5 (F_X11_laysDivisions v_toCut v_toLeave v_a v_worthFrom v_cutsFrom v_endFrom v_changes v_waysFrom) (fun v_worthFrom_1 v_cutsFrom_2 v_endFrom_3 v_changes_4 v_waysFrom_5 => ob1 (F_X11_many v_a) (fun r_6 => if r_6 = 0 then (some ((0 : Int64), (0 : Int32), v_worthFrom_1, v_cutsFrom_2, v_endFrom_3, v_changes_4, v_waysFrom_5)) else (gi (0 : Int32) 33 (some ((v_waysFrom_5 (0 : Int32).toNatClampNeg), (0 : Int32), v_worthFrom_1, v_cutsFrom_2, v_endFrom_3, v_changes_4, v_waysFrom_5)))))
def F_X11_worthWith_b56 (st_1 : Int32) (v_thrown_2 : Int32) (v_toCut_3 : Int32) (v_toLeave_4 : Int32) (v_worthFrom_5 : Nat → Int32) (v_cutsFrom_6 : Nat → Int32) (v_endFrom_7 : Nat → Int32) (v_changes_8 : Nat → Int32) (v_waysFrom_9 : Nat → Int64) : Option (Int32 × (Int32) × (Int32) × (Int32) × (Nat → Int32) × (Nat → Int32) × (Nat → Int32) × (Nat → Int32) × (Nat → Int64)) := if st_1 ≤ 0 then (gi (0 : Int32) 33 (some ((v_worthFrom_5 (0 : Int32).toNatClampNeg), st_1, (-1 : Int32), (-1 : Int32), v_worthFrom_5, v_cutsFrom_6, v_endFrom_7, v_changes_8, v_waysFrom_9))) else (some ((0 : Int32), st_1, (-1 : Int32), (-1 : Int32), v_worthFrom_5, v_cutsFrom_6, v_endFrom_7, v_changes_8, v_waysFrom_9))
def F_X11_worthWith_b43 (v_thrown_12 : Int32) (v_toCut_13 : Int32) (v_toLeave_14 : Int32) (v_a : Nat → Int64) (v_worthFrom_15 : Nat → Int32) (v_cutsFrom_16 : Nat → Int32) (v_endFrom_17 : Nat → Int32) (v_changes_18 : Nat → Int32) (v_waysFrom_19 : Nat → Int64) : Option (Int32 × (Int32) × (Int32) × (Int32) × (Nat → Int32) × (Nat → Int32) × (Nat → Int32) × (Nat → Int32) × (Nat → Int64)) := ob6 (F_X11_hasBest v_toCut_13 v_toLeave_14 v_a v_worthFrom_15 v_cutsFrom_16 v_endFrom_17 v_changes_18 v_waysFrom_19) (fun r_20 v_worthFrom_21 v_cutsFrom_22 v_endFrom_23 v_changes_24 v_waysFrom_25 => if r_20 = 0 then (F_X11_worthWith_b56 (2 : Int32) v_thrown_12 v_toCut_13 v_toLeave_14 v_worthFrom_21 v_cutsFrom_22 v_endFrom_23 v_changes_24 v_waysFrom_25) else (F_X11_worthWith_b56 (0 : Int32) v_thrown_12 v_toCut_13 v_toLeave_14 v_worthFrom_21 v_cutsFrom_22 v_endFrom_23 v_changes_24 v_waysFrom_25))
def F_X11_worthWith_b14 (x1 : Int32) (x2 : Int32) (st_27 : Int32) (v_thrown_28 : Int32) (v_toCut_29 : Int32) (v_toLeave_30 : Int32) (v_a : Nat → Int64) (v_worthFrom_31 : Nat → Int32) (v_cutsFrom_32 : Nat → Int32) (v_endFrom_33 : Nat → Int32) (v_changes_34 : Nat → Int32) (v_waysFrom_35 : Nat → Int64) : Option (Int32 × (Int32) × (Int32) × (Int32) × (Nat → Int32) × (Nat → Int32) × (Nat → Int32) × (Nat → Int32) × (Nat → Int64)) := if st_27 ≤ 0 then (if x2 = 0 then (F_X11_worthWith_b43 st_27 v_toCut_29 x1 v_a v_worthFrom_31 v_cutsFrom_32 v_endFrom_33 v_changes_34 v_waysFrom_35) else (F_X11_worthWith_b43 st_27 x1 v_toLeave_30 v_a v_worthFrom_31 v_cutsFrom_32 v_endFrom_33 v_changes_34 v_waysFrom_35)) else (some ((0 : Int32), st_27, v_toCut_29, v_toLeave_30, v_worthFrom_31, v_cutsFrom_32, v_endFrom_33, v_changes_34, v_waysFrom_35))
def F_X11_worthWith (x1 : Int32) (x2 : Int32) (v_thrown : Int32) (v_toCut : Int32) (v_toLeave : Int32) (v_a : Nat → Int64) (v_worthFrom : Nat → Int32) (v_cutsFrom : Nat → Int32) (v_endFrom : Nat → Int32) (v_changes : Nat → Int32) (v_waysFrom : Nat → Int64) : Option (Int32 × (Int32) × (Int32) × (Int32) × (Nat → Int32) × (Nat → Int32) × (Nat → Int32) × (Nat → Int32) × (Nat → Int64)) := ob1 (F_X11_isBoundary x1 v_a) (fun r_38 => if r_38 = 0 then (F_X11_worthWith_b14 x1 x2 (1 : Int32) v_thrown v_toCut v_toLeave v_a v_worthFrom v_cutsFrom v_endFrom v_changes v_waysFrom) else (F_X11_worthWith_b14 x1 x2 (0 : Int32) v_thrown v_toCut v_toLeave v_a v_worthFrom v_cutsFrom v_endFrom v_changes v_waysFrom))
def F_X11_priceFor_b107 (l4_1 : Int32) (st_2 : Int32) (v_thrown_3 : Int32) (v_a_4 : Nat → Int64) (v_worthFrom_5 : Nat → Int32) (v_cutsFrom_6 : Nat → Int32) (v_endFrom_7 : Nat → Int32) (v_changes_8 : Nat → Int32) (v_waysFrom_9 : Nat → Int64) : Option (Int32 × (Int32) × (Nat → Int64) × (Nat → Int32) × (Nat → Int32) × (Nat → Int32) × (Nat → Int32) × (Nat → Int64)) := if st_2 ≤ 0 then (some (l4_1, st_2, v_a_4, v_worthFrom_5, v_cutsFrom_6, v_endFrom_7, v_changes_8, v_waysFrom_9)) else (some ((0 : Int32), st_2, v_a_4, v_worthFrom_5, v_cutsFrom_6, v_endFrom_7, v_changes_8, v_waysFrom_9))
def F_X11_priceFor_b89 (l2_11 : Int64) (l4_12 : Int32) (v_thrown_13 : Int32) (v_a_14 : Nat → Int64) (v_worthFrom_15 : Nat → Int32) (v_cutsFrom_16 : Nat → Int32) (v_endFrom_17 : Nat → Int32) (v_changes_18 : Nat → Int32) (v_waysFrom_19 : Nat → Int64) : Option (Int32 × (Int32) × (Nat → Int64) × (Nat → Int32) × (Nat → Int32) × (Nat → Int32) × (Nat → Int32) × (Nat → Int64)) := gi (3 : Int32) 499 (if 0 ≤ l4_12 then (F_X11_priceFor_b107 l4_12 (0 : Int32) v_thrown_13 (vp_updL v_a_14 (3 : Int32).toNatClampNeg l2_11) v_worthFrom_15 v_cutsFrom_16 v_endFrom_17 v_changes_18 v_waysFrom_19) else (F_X11_priceFor_b107 l4_12 (2 : Int32) v_thrown_13 (vp_updL v_a_14 (3 : Int32).toNatClampNeg l2_11) v_worthFrom_15 v_cutsFrom_16 v_endFrom_17 v_changes_18 v_waysFrom_19))
def F_X11_priceFor_b74 (k : Int32 × (Nat → Int64) × (Nat → Int32) × (Nat → Int32) × (Nat → Int32) × (Nat → Int32) × (Nat → Int64) → Option ((Int32 × (Nat → Int64) × (Nat → Int32) × (Nat → Int32) × (Nat → Int32) × (Nat → Int32) × (Nat → Int64)))) (x1 : Int32) (l2_32 : Int64) (l4_41 : Int32) (v_thrown_34 : Int32) (v_toCut : Int32) (v_toLeave : Int32) (v_a_42 : Nat → Int64) (v_worthFrom_43 : Nat → Int32) (v_cutsFrom_44 : Nat → Int32) (v_endFrom_45 : Nat → Int32) (v_changes_46 : Nat → Int32) (v_waysFrom_47 : Nat → Int64) : Option ((Int32 × (Nat → Int64) × (Nat → Int32) × (Nat → Int32) × (Nat → Int32) × (Nat → Int32) × (Nat → Int64))) := gi (3 : Int32) 499 (k ((l4_41 + (-1 : Int32)), (vp_updL v_a_42 (3 : Int32).toNatClampNeg ((l4_41 + (-1 : Int32)).toInt64)), v_worthFrom_43, v_cutsFrom_44, v_endFrom_45, v_changes_46, v_waysFrom_47))
def S_X11_priceFor_50 (x1 : Int32) (l2_32 : Int64) (v_thrown_34 : Int32) (v_toCut : Int32) (v_toLeave : Int32) (k : Int32 × (Nat → Int64) × (Nat → Int32) × (Nat → Int32) × (Nat → Int32) × (Nat → Int32) × (Nat → Int64) → Option ((Int32 × (Nat → Int64) × (Nat → Int32) × (Nat → Int32) × (Nat → Int32) × (Nat → Int32) × (Nat → Int64)))) (l4_33 : Int32) (v_a_35 : Nat → Int64) (v_worthFrom_36 : Nat → Int32) (v_cutsFrom_37 : Nat → Int32) (v_endFrom_38 : Nat → Int32) (v_changes_39 : Nat → Int32) (v_waysFrom_40 : Nat → Int64) : Option ((Int32 × (Nat → Int64) × (Nat → Int32) × (Nat → Int32) × (Nat → Int32) × (Nat → Int32) × (Nat → Int64))) := if l4_33 < 0 then (some (l4_33, v_a_35, v_worthFrom_36, v_cutsFrom_37, v_endFrom_38, v_changes_39, v_waysFrom_40)) else (ob6 (F_X11_hasBest v_toCut v_toLeave v_a_35 v_worthFrom_36 v_cutsFrom_37 v_endFrom_38 v_changes_39 v_waysFrom_40) (fun r_49 v_worthFrom_50 v_cutsFrom_51 v_endFrom_52 v_changes_53 v_waysFrom_54 => if r_49 = 0 then (F_X11_priceFor_b74 k x1 l2_32 l4_33 v_thrown_34 v_toCut v_toLeave v_a_35 v_worthFrom_50 v_cutsFrom_51 v_endFrom_52 v_changes_53 v_waysFrom_54) else (gi (0 : Int32) 33 (if x1 ≤ ((v_cutsFrom_51 (0 : Int32).toNatClampNeg) + (1 : Int32)) then (some (l4_33, v_a_35, v_worthFrom_50, v_cutsFrom_51, v_endFrom_52, v_changes_53, v_waysFrom_54)) else (F_X11_priceFor_b74 k x1 l2_32 l4_33 v_thrown_34 v_toCut v_toLeave v_a_35 v_worthFrom_50 v_cutsFrom_51 v_endFrom_52 v_changes_53 v_waysFrom_54)))))
def F_X11_priceFor_b18 (x1 : Int32) (st_22 : Int32) (v_thrown_23 : Int32) (v_toCut : Int32) (v_toLeave : Int32) (v_a_24 : Nat → Int64) (v_worthFrom_25 : Nat → Int32) (v_cutsFrom_26 : Nat → Int32) (v_endFrom_27 : Nat → Int32) (v_changes_28 : Nat → Int32) (v_waysFrom_29 : Nat → Int64) : Option (Int32 × (Int32) × (Nat → Int64) × (Nat → Int32) × (Nat → Int32) × (Nat → Int32) × (Nat → Int32) × (Nat → Int64)) := if st_22 ≤ 0 then (gi (3 : Int32) 499 (gi (3 : Int32) 499 (ob7 (wh (fun k q => S_X11_priceFor_50 x1 (v_a_24 (3 : Int32).toNatClampNeg) st_22 v_toCut v_toLeave k q.1 q.2.1 q.2.2.1 q.2.2.2.1 q.2.2.2.2.1 q.2.2.2.2.2.1 q.2.2.2.2.2.2) wF ((100 : Int32), (vp_updL v_a_24 (3 : Int32).toNatClampNeg ((100 : Int32).toInt64)), v_worthFrom_25, v_cutsFrom_26, v_endFrom_27, v_changes_28, v_waysFrom_29)) (fun e_66 e_67 e_68 e_69 e_70 e_71 e_72 => F_X11_priceFor_b89 (v_a_24 (3 : Int32).toNatClampNeg) e_66 st_22 e_67 e_68 e_69 e_70 e_71 e_72)))) else (some ((0 : Int32), st_22, v_a_24, v_worthFrom_25, v_cutsFrom_26, v_endFrom_27, v_changes_28, v_waysFrom_29))
def F_X11_priceFor (x1 : Int32) (v_thrown : Int32) (v_toCut : Int32) (v_toLeave : Int32) (v_a : Nat → Int64) (v_worthFrom : Nat → Int32) (v_cutsFrom : Nat → Int32) (v_endFrom : Nat → Int32) (v_changes : Nat → Int32) (v_waysFrom : Nat → Int64) : Option (Int32 × (Int32) × (Nat → Int64) × (Nat → Int32) × (Nat → Int32) × (Nat → Int32) × (Nat → Int32) × (Nat → Int64)) := ob1 (F_X11_isIn (x1.toInt64) (1 : Int64) (32 : Int64)) (fun r_74 => if r_74 = 0 then (F_X11_priceFor_b18 x1 (1 : Int32) v_thrown v_toCut v_toLeave v_a v_worthFrom v_cutsFrom v_endFrom v_changes v_waysFrom) else (F_X11_priceFor_b18 x1 (0 : Int32) v_thrown v_toCut v_toLeave v_a v_worthFrom v_cutsFrom v_endFrom v_changes v_waysFrom))
def S_X11_chaptersOf_4 (x1 : Int32) (v_a : Nat → Int64) (v_cutsFrom : Nat → Int32) (v_endFrom : Nat → Int32) (k : Int32 × Int32 → Option ((Int32))) (l2_1 : Int32) (l3_2 : Int32) : Option ((Int32)) := gi (0 : Int32) 33 (if (v_cutsFrom (0 : Int32).toNatClampNeg) < l3_2 then (some (l2_1)) else (ob1 (F_X11_beginOf l3_2 v_endFrom) (fun r_4 => ob1 (F_X11_beginOf l3_2 v_endFrom) (fun r_5 => gi r_5 33 (ob1 (F_X11_usesIn x1 r_4 (v_endFrom r_5.toNatClampNeg) v_a) (fun r_7 => if r_7 ≤ 0 then (k ((l2_1 + (0 : Int32)), (l3_2 + (1 : Int32)))) else (k ((l2_1 + (1 : Int32)), (l3_2 + (1 : Int32))))))))))
def F_X11_chaptersOf (x1 : Int32) (v_a : Nat → Int64) (v_cutsFrom : Nat → Int32) (v_endFrom : Nat → Int32) : Option (Int32) := ob1 (wh (fun k q => S_X11_chaptersOf_4 x1 v_a v_cutsFrom v_endFrom k q.1 q.2) wF ((0 : Int32), (0 : Int32))) (fun e_11 => some e_11)
def F_X11_chaptersWith_b25 (x1 : Int32) (st_1 : Int32) (v_thrown_2 : Int32) (v_a : Nat → Int64) (v_worthFrom_3 : Nat → Int32) (v_cutsFrom_4 : Nat → Int32) (v_endFrom_5 : Nat → Int32) (v_changes_6 : Nat → Int32) (v_waysFrom_7 : Nat → Int64) : Option (Int32 × (Int32) × (Nat → Int32) × (Nat → Int32) × (Nat → Int32) × (Nat → Int32) × (Nat → Int64)) := if st_1 ≤ 0 then (ob1 (F_X11_chaptersOf x1 v_a v_cutsFrom_4 v_endFrom_5) (fun r_8 => some (r_8, st_1, v_worthFrom_3, v_cutsFrom_4, v_endFrom_5, v_changes_6, v_waysFrom_7))) else (some ((0 : Int32), st_1, v_worthFrom_3, v_cutsFrom_4, v_endFrom_5, v_changes_6, v_waysFrom_7))
def F_X11_chaptersWith (x1 : Int32) (v_thrown : Int32) (v_toCut : Int32) (v_toLeave : Int32) (v_a : Nat → Int64) (v_worthFrom : Nat → Int32) (v_cutsFrom : Nat → Int32) (v_endFrom : Nat → Int32) (v_changes : Nat → Int32) (v_waysFrom : Nat → Int64) : Option (Int32 × (Int32) × (Nat → Int32) × (Nat → Int32) × (Nat → Int32) × (Nat → Int32) × (Nat → Int64)) := ob6 (F_X11_hasBest v_toCut v_toLeave v_a v_worthFrom v_cutsFrom v_endFrom v_changes v_waysFrom) (fun r_10 v_worthFrom_11 v_cutsFrom_12 v_endFrom_13 v_changes_14 v_waysFrom_15 => if r_10 = 0 then (F_X11_chaptersWith_b25 x1 (1 : Int32) v_thrown v_a v_worthFrom_11 v_cutsFrom_12 v_endFrom_13 v_changes_14 v_waysFrom_15) else (ob1 (F_X11_isKnown x1 v_a) (fun r_16 => if r_16 = 0 then (F_X11_chaptersWith_b25 x1 (2 : Int32) v_thrown v_a v_worthFrom_11 v_cutsFrom_12 v_endFrom_13 v_changes_14 v_waysFrom_15) else (F_X11_chaptersWith_b25 x1 (0 : Int32) v_thrown v_a v_worthFrom_11 v_cutsFrom_12 v_endFrom_13 v_changes_14 v_waysFrom_15))))
def F_X11_markOf (x1 : Int32) (x2 : Int32) (v_a : Nat → Int64) (v_cutsFrom : Nat → Int32) (v_endFrom : Nat → Int32) : Option (Int32) := ob1 (F_X11_beginOf x1 v_endFrom) (fun r_1 => gi r_1 33 (ob1 (F_X11_usesIn x2 r_1 (v_endFrom r_1.toNatClampNeg) v_a) (fun r_3 => if r_3 = 0 then (some (0 : Int32)) else (ob1 (F_X11_chaptersOf x2 v_a v_cutsFrom v_endFrom) (fun r_4 => gzi r_4 (some (((1000 : Int32) * r_3) / r_4)))))))
def F_X11_typical_b97 (k : Int32 × Int32 × Int32 → Option ((Int32))) (x1 : Int32) (l2_8 : Int32) (l3_18 : Int32) (l4_19 : Int32) (l5_20 : Int32) (l6_21 : Int32) (v_thrown_12 : Int32) (v_a : Nat → Int64) (v_worthFrom_13 : Nat → Int32) (v_cutsFrom_14 : Nat → Int32) (v_endFrom_15 : Nat → Int32) (v_changes_16 : Nat → Int32) (v_waysFrom_17 : Nat → Int64) : Option ((Int32)) := if l6_21 ≤ l4_19 then (k (l3_18, l4_19, (l5_20 + (1 : Int32)))) else (k (l3_18, l6_21, (l5_20 + (1 : Int32))))
def S_X11_typical_49 (x1 : Int32) (l2_8 : Int32) (l3_24 : Int32) (l4_25 : Int32) (l5_26 : Int32) (v_thrown_12 : Int32) (v_a : Nat → Int64) (v_worthFrom_13 : Nat → Int32) (v_cutsFrom_14 : Nat → Int32) (v_endFrom_15 : Nat → Int32) (v_changes_16 : Nat → Int32) (v_waysFrom_17 : Nat → Int64) (k : Int32 × Int32 → Option ((Int32))) (l6_27 : Int32) (l7_28 : Int32) : Option ((Int32)) := ob1 (F_X11_of l5_26 (2 : Int32) v_a) (fun r_29 => if r_29 ≤ l7_28 then (some (l6_27)) else (ob1 (F_X11_of l5_26 ((3 : Int32) + l7_28) v_a) (fun r_30 => ob1 (F_X11_markOf x1 r_30 v_a v_cutsFrom_14 v_endFrom_15) (fun r_31 => k ((l6_27 + r_31), (l7_28 + (1 : Int32)))))))
def S_X11_typical_32 (x1 : Int32) (l2_8 : Int32) (v_thrown_12 : Int32) (v_a : Nat → Int64) (v_worthFrom_13 : Nat → Int32) (v_cutsFrom_14 : Nat → Int32) (v_endFrom_15 : Nat → Int32) (v_changes_16 : Nat → Int32) (v_waysFrom_17 : Nat → Int64) (k : Int32 × Int32 × Int32 → Option ((Int32))) (l3_9 : Int32) (l4_10 : Int32) (l5_11 : Int32) : Option ((Int32)) := gi l2_8 33 (if (v_endFrom_15 l2_8.toNatClampNeg) < l5_11 then (some (l3_9)) else (ob1 (wh (fun k q => S_X11_typical_49 x1 l2_8 l3_9 l4_10 l5_11 v_thrown_12 v_a v_worthFrom_13 v_cutsFrom_14 v_endFrom_15 v_changes_16 v_waysFrom_17 k q.1 q.2) wF ((0 : Int32), (0 : Int32))) (fun e_34 => if e_34 ≤ l4_10 then (F_X11_typical_b97 k x1 l2_8 l3_9 l4_10 l5_11 e_34 v_thrown_12 v_a v_worthFrom_13 v_cutsFrom_14 v_endFrom_15 v_changes_16 v_waysFrom_17) else (F_X11_typical_b97 k x1 l2_8 l5_11 l4_10 l5_11 e_34 v_thrown_12 v_a v_worthFrom_13 v_cutsFrom_14 v_endFrom_15 v_changes_16 v_waysFrom_17))))
def F_X11_typical (x1 : Int32) (v_thrown : Int32) (v_toCut : Int32) (v_toLeave : Int32) (v_a : Nat → Int64) (v_worthFrom : Nat → Int32) (v_cutsFrom : Nat → Int32) (v_endFrom : Nat → Int32) (v_changes : Nat → Int32) (v_waysFrom : Nat → Int64) : Option (Int32 × (Int32) × (Nat → Int32) × (Nat → Int32) × (Nat → Int32) × (Nat → Int32) × (Nat → Int64)) := ob6 (F_X11_noChapter x1 v_toCut v_toLeave v_a v_worthFrom v_cutsFrom v_endFrom v_changes v_waysFrom) (fun r_1 v_worthFrom_2 v_cutsFrom_3 v_endFrom_4 v_changes_5 v_waysFrom_6 => if r_1 ≤ 0 then (ob1 (F_X11_beginOf x1 v_endFrom_4) (fun r_7 => ob1 (wh (fun k q => S_X11_typical_32 x1 r_7 r_1 v_a v_worthFrom_2 v_cutsFrom_3 v_endFrom_4 v_changes_5 v_waysFrom_6 k q.1 q.2.1 q.2.2) wF (r_7, (-1 : Int32), r_7)) (fun e_38 => some (e_38, r_1, v_worthFrom_2, v_cutsFrom_3, v_endFrom_4, v_changes_5, v_waysFrom_6)))) else (some ((0 : Int32), r_1, v_worthFrom_2, v_cutsFrom_3, v_endFrom_4, v_changes_5, v_waysFrom_6)))
def F_X11_likeness_b25 (x1 : Int32) (x2 : Int32) (v_thrown_1 : Int32) (v_a : Nat → Int64) (v_worthFrom_2 : Nat → Int32) (v_cutsFrom_3 : Nat → Int32) (v_endFrom_4 : Nat → Int32) (v_changes_5 : Nat → Int32) (v_waysFrom_6 : Nat → Int64) : Option (Int32 × (Int32) × (Nat → Int32) × (Nat → Int32) × (Nat → Int32) × (Nat → Int32) × (Nat → Int64)) := if v_thrown_1 ≤ 0 then (ob1 (F_X11_beginOf x1 v_endFrom_4) (fun r_7 => ob1 (F_X11_beginOf x2 v_endFrom_4) (fun r_8 => gi r_7 33 (gi r_8 33 (ob1 (F_X11_likenessOf r_7 (v_endFrom_4 r_7.toNatClampNeg) r_8 (v_endFrom_4 r_8.toNatClampNeg) v_a) (fun r_11 => some (r_11, v_thrown_1, v_worthFrom_2, v_cutsFrom_3, v_endFrom_4, v_changes_5, v_waysFrom_6))))))) else (some ((0 : Int32), v_thrown_1, v_worthFrom_2, v_cutsFrom_3, v_endFrom_4, v_changes_5, v_waysFrom_6))
def F_X11_likeness (x1 : Int32) (x2 : Int32) (v_thrown : Int32) (v_toCut : Int32) (v_toLeave : Int32) (v_a : Nat → Int64) (v_worthFrom : Nat → Int32) (v_cutsFrom : Nat → Int32) (v_endFrom : Nat → Int32) (v_changes : Nat → Int32) (v_waysFrom : Nat → Int64) : Option (Int32 × (Int32) × (Nat → Int32) × (Nat → Int32) × (Nat → Int32) × (Nat → Int32) × (Nat → Int64)) := ob6 (F_X11_noChapter x1 v_toCut v_toLeave v_a v_worthFrom v_cutsFrom v_endFrom v_changes v_waysFrom) (fun r_13 v_worthFrom_14 v_cutsFrom_15 v_endFrom_16 v_changes_17 v_waysFrom_18 => if r_13 = 0 then (ob6 (F_X11_noChapter x2 v_toCut v_toLeave v_a v_worthFrom_14 v_cutsFrom_15 v_endFrom_16 v_changes_17 v_waysFrom_18) (fun r_19 v_worthFrom_20 v_cutsFrom_21 v_endFrom_22 v_changes_23 v_waysFrom_24 => F_X11_likeness_b25 x1 x2 r_19 v_a v_worthFrom_20 v_cutsFrom_21 v_endFrom_22 v_changes_23 v_waysFrom_24)) else (F_X11_likeness_b25 x1 x2 r_13 v_a v_worthFrom_14 v_cutsFrom_15 v_endFrom_16 v_changes_17 v_waysFrom_18))
def F_X11_mark_b29 (x1 : Int32) (x2 : Int32) (v_thrown_1 : Int32) (v_a : Nat → Int64) (v_worthFrom_2 : Nat → Int32) (v_cutsFrom_3 : Nat → Int32) (v_endFrom_4 : Nat → Int32) (v_changes_5 : Nat → Int32) (v_waysFrom_6 : Nat → Int64) : Option (Int32 × (Int32) × (Nat → Int32) × (Nat → Int32) × (Nat → Int32) × (Nat → Int32) × (Nat → Int64)) := if v_thrown_1 ≤ 0 then (ob1 (F_X11_markOf x1 x2 v_a v_cutsFrom_3 v_endFrom_4) (fun r_7 => some (r_7, v_thrown_1, v_worthFrom_2, v_cutsFrom_3, v_endFrom_4, v_changes_5, v_waysFrom_6))) else (some ((0 : Int32), v_thrown_1, v_worthFrom_2, v_cutsFrom_3, v_endFrom_4, v_changes_5, v_waysFrom_6))
def F_X11_mark (x1 : Int32) (x2 : Int32) (v_thrown : Int32) (v_toCut : Int32) (v_toLeave : Int32) (v_a : Nat → Int64) (v_worthFrom : Nat → Int32) (v_cutsFrom : Nat → Int32) (v_endFrom : Nat → Int32) (v_changes : Nat → Int32) (v_waysFrom : Nat → Int64) : Option (Int32 × (Int32) × (Nat → Int32) × (Nat → Int32) × (Nat → Int32) × (Nat → Int32) × (Nat → Int64)) := ob6 (F_X11_noChapter x1 v_toCut v_toLeave v_a v_worthFrom v_cutsFrom v_endFrom v_changes v_waysFrom) (fun r_9 v_worthFrom_10 v_cutsFrom_11 v_endFrom_12 v_changes_13 v_waysFrom_14 => if r_9 = 0 then (ob1 (F_X11_isKnown x2 v_a) (fun r_15 => if r_15 = 0 then (F_X11_mark_b29 x1 x2 (2 : Int32) v_a v_worthFrom_10 v_cutsFrom_11 v_endFrom_12 v_changes_13 v_waysFrom_14) else (F_X11_mark_b29 x1 x2 r_9 v_a v_worthFrom_10 v_cutsFrom_11 v_endFrom_12 v_changes_13 v_waysFrom_14))) else (F_X11_mark_b29 x1 x2 r_9 v_a v_worthFrom_10 v_cutsFrom_11 v_endFrom_12 v_changes_13 v_waysFrom_14))
def S_X11_titleWord_20 (x1 : Int32) (x2 : Int32) (l3_4 : Int32) (l5_6 : Int32) (v_a : Nat → Int64) (v_cutsFrom : Nat → Int32) (v_endFrom : Nat → Int32) (k : Int32 × Int32 → Option ((Int32))) (l4_5 : Int32) (l6_7 : Int32) : Option ((Int32)) := gi (7 : Int32) 499 (if 0 ≤ (lg_cmp (l6_7.toInt64) (v_a (7 : Int32).toNatClampNeg)) then (some (l4_5)) else (ob1 (F_X11_has l3_4 l6_7) (fun r_9 => if r_9 = 0 then (ob1 (F_X11_markOf x1 l6_7 v_a v_cutsFrom v_endFrom) (fun r_10 => if r_10 = 0 then (k (l4_5, (l6_7 + (1 : Int32)))) else (if l4_5 = (-1 : Int32) then (k (l6_7, (l6_7 + (1 : Int32)))) else (ob1 (F_X11_markOf x1 l6_7 v_a v_cutsFrom v_endFrom) (fun r_11 => ob1 (F_X11_markOf x1 l4_5 v_a v_cutsFrom v_endFrom) (fun r_12 => if r_11 ≤ r_12 then (k (l4_5, (l6_7 + (1 : Int32)))) else (k (l6_7, (l6_7 + (1 : Int32)))))))))) else (k (l4_5, (l6_7 + (1 : Int32)))))))
def S_X11_titleWord_8 (x1 : Int32) (x2 : Int32) (v_a : Nat → Int64) (v_cutsFrom : Nat → Int32) (v_endFrom : Nat → Int32) (k : Int32 × Int32 × Int32 → Option ((Unit) ⊕ (Int32))) (l3_1 : Int32) (l4_2 : Int32) (l5_3 : Int32) : Option ((Unit) ⊕ (Int32)) := if x2 < l5_3 then (some (.inr (l4_2))) else (ob1 (wh (fun k q => S_X11_titleWord_20 x1 x2 l3_1 l5_3 v_a v_cutsFrom v_endFrom k q.1 q.2) wF ((-1 : Int32), (0 : Int32))) (fun e_19 => if e_19 = (-1 : Int32) then (some (.inl ())) else (k ((l3_1 ||| ((1 : Int32) <<< (e_19 &&& 31))), e_19, (l5_3 + (1 : Int32))))))
def F_X11_titleWord (x1 : Int32) (x2 : Int32) (v_a : Nat → Int64) (v_cutsFrom : Nat → Int32) (v_endFrom : Nat → Int32) : Option (Int32) := ob1 (wh (fun k q => S_X11_titleWord_8 x1 x2 v_a v_cutsFrom v_endFrom k q.1 q.2.1 q.2.2) wF ((0 : Int32), (-1 : Int32), (0 : Int32))) (Sum.elim (un1 (fun _u => some (-1 : Int32))) (un1 (fun e_24 => some e_24)))
def F_X11_title_b33 (x1 : Int32) (x2 : Int32) (v_thrown_1 : Int32) (v_a : Nat → Int64) (v_worthFrom_2 : Nat → Int32) (v_cutsFrom_3 : Nat → Int32) (v_endFrom_4 : Nat → Int32) (v_changes_5 : Nat → Int32) (v_waysFrom_6 : Nat → Int64) : Option (Int32 × (Int32) × (Nat → Int32) × (Nat → Int32) × (Nat → Int32) × (Nat → Int32) × (Nat → Int64)) := if v_thrown_1 ≤ 0 then (ob1 (F_X11_titleWord x1 x2 v_a v_cutsFrom_3 v_endFrom_4) (fun r_7 => some (r_7, v_thrown_1, v_worthFrom_2, v_cutsFrom_3, v_endFrom_4, v_changes_5, v_waysFrom_6))) else (some ((0 : Int32), v_thrown_1, v_worthFrom_2, v_cutsFrom_3, v_endFrom_4, v_changes_5, v_waysFrom_6))
def F_X11_title (x1 : Int32) (x2 : Int32) (v_thrown : Int32) (v_toCut : Int32) (v_toLeave : Int32) (v_a : Nat → Int64) (v_worthFrom : Nat → Int32) (v_cutsFrom : Nat → Int32) (v_endFrom : Nat → Int32) (v_changes : Nat → Int32) (v_waysFrom : Nat → Int64) : Option (Int32 × (Int32) × (Nat → Int32) × (Nat → Int32) × (Nat → Int32) × (Nat → Int32) × (Nat → Int64)) := ob6 (F_X11_noChapter x1 v_toCut v_toLeave v_a v_worthFrom v_cutsFrom v_endFrom v_changes v_waysFrom) (fun r_9 v_worthFrom_10 v_cutsFrom_11 v_endFrom_12 v_changes_13 v_waysFrom_14 => if r_9 = 0 then (ob1 (F_X11_isIn (x2.toInt64) (0 : Int64) (2 : Int64)) (fun r_15 => if r_15 = 0 then (F_X11_title_b33 x1 x2 (2 : Int32) v_a v_worthFrom_10 v_cutsFrom_11 v_endFrom_12 v_changes_13 v_waysFrom_14) else (F_X11_title_b33 x1 x2 r_9 v_a v_worthFrom_10 v_cutsFrom_11 v_endFrom_12 v_changes_13 v_waysFrom_14))) else (F_X11_title_b33 x1 x2 r_9 v_a v_worthFrom_10 v_cutsFrom_11 v_endFrom_12 v_changes_13 v_waysFrom_14))
def F_X11_addSlot_b72 (x1 : Int32) (x2 : Int32) (x3 : Int32) (st_1 : Int32) (v_keptMany_2 : Int32) (v_thrown_3 : Int32) (v_a_4 : Nat → Int64) (v_kept_5 : Nat → Int64) : Option (Int32 × (Int32) × (Int32) × (Nat → Int64) × (Nat → Int64)) := if st_1 ≤ 0 then (ob2 (F_X11_keeps v_keptMany_2 v_a_4 v_kept_5) (fun v_keptMany_6 v_kept_7 => ob2 (F_X11_putsSlot 499 x1 x2 x3 v_a_4) (fun r_8 v_a_9 => some (r_8, v_keptMany_6, st_1, v_a_9, v_kept_7)))) else (some ((0 : Int32), v_keptMany_2, st_1, v_a_4, v_kept_5))
def F_X11_addSlot_b41 (x1 : Int32) (x2 : Int32) (x3 : Int32) (st_11 : Int32) (v_keptMany_12 : Int32) (v_thrown_13 : Int32) (v_a_14 : Nat → Int64) (v_kept_15 : Nat → Int64) : Option (Int32 × (Int32) × (Int32) × (Nat → Int64) × (Nat → Int64)) := if st_11 = 0 then (F_X11_addSlot_b72 x1 x2 x3 (1 : Int32) v_keptMany_12 v_thrown_13 v_a_14 v_kept_15) else (gi (8 : Int32) 499 (if (lg_cmp (v_a_14 (8 : Int32).toNatClampNeg) (5 : Int64)) = 0 then (F_X11_addSlot_b72 x1 x2 x3 (2 : Int32) v_keptMany_12 v_thrown_13 v_a_14 v_kept_15) else (F_X11_addSlot_b72 x1 x2 x3 (0 : Int32) v_keptMany_12 v_thrown_13 v_a_14 v_kept_15)))
def F_X11_addSlot_b40 (x1 : Int32) (x2 : Int32) (x3 : Int32) (v_keptMany_19 : Int32) (v_thrown_20 : Int32) (v_a_21 : Nat → Int64) (v_kept_22 : Nat → Int64) : Option (Int32 × (Int32) × (Int32) × (Nat → Int64) × (Nat → Int64)) := F_X11_addSlot_b41 x1 x2 x3 (0 : Int32) v_keptMany_19 v_thrown_20 v_a_21 v_kept_22
def F_X11_addSlot (x1 : Int32) (x2 : Int32) (x3 : Int32) (v_keptMany : Int32) (v_thrown : Int32) (v_a : Nat → Int64) (v_kept : Nat → Int64) : Option (Int32 × (Int32) × (Int32) × (Nat → Int64) × (Nat → Int64)) := ob1 (F_X11_isIn (x1.toInt64) (0 : Int64) (9999 : Int64)) (fun r_23 => if r_23 = 0 then (F_X11_addSlot_b40 x1 x2 x3 v_keptMany v_thrown v_a v_kept) else (ob1 (F_X11_isIn (x2.toInt64) (1 : Int64) (300 : Int64)) (fun r_24 => if r_24 = 0 then (F_X11_addSlot_b40 x1 x2 x3 v_keptMany v_thrown v_a v_kept) else (ob1 (F_X11_isIn (x3.toInt64) (0 : Int64) (999 : Int64)) (fun r_25 => if r_25 = 0 then (F_X11_addSlot_b40 x1 x2 x3 v_keptMany v_thrown v_a v_kept) else (F_X11_addSlot_b41 x1 x2 x3 (1 : Int32) v_keptMany v_thrown v_a v_kept))))))
def F_X11_isSlot (x1 : Int32) (v_a : Nat → Int64) : Option (Int32) := gi (8 : Int32) 499 (ob1 (F_X11_isIn (x1.toInt64) (0 : Int64) ((v_a (8 : Int32).toNatClampNeg) - (1 : Int64))) (fun r_2 => gb r_2 (some r_2)))
def S_X11_takesSlot_19 (l2_2 : Int32) (k : Int32 × (Nat → Int64) → Option (((Nat → Int64)))) (l3_3 : Int32) (v_a_4 : Nat → Int64) : Option (((Nat → Int64))) := if ((394 : Int32) + ((3 : Int32) * l2_2)) ≤ l3_3 then (some (v_a_4)) else (gi (l3_3 + (3 : Int32)) 499 (gi l3_3 499 (k ((l3_3 + (1 : Int32)), (vp_updL v_a_4 l3_3.toNatClampNeg (v_a_4 (l3_3 + (3 : Int32)).toNatClampNeg))))))
def S_X11_takesSlot_58 (l2_10 : Int32) (k : Int32 × (Nat → Int64) → Option (((Nat → Int64)))) (l3_11 : Int32) (v_a_12 : Nat → Int64) : Option (((Nat → Int64))) := if (((394 : Int32) + ((3 : Int32) * l2_10)) + (3 : Int32)) ≤ l3_11 then (some (v_a_12)) else (gi l3_11 499 (k ((l3_11 + (1 : Int32)), (vp_updL v_a_12 l3_11.toNatClampNeg (0 : Int64)))))
def F_X11_takesSlot (x1 : Int32) (v_a : Nat → Int64) : Option ((Nat → Int64)) := gi (8 : Int32) 499 (ob1 (wh (fun k q => S_X11_takesSlot_19 (((v_a (8 : Int32).toNatClampNeg).toInt32) - (1 : Int32)) k q.1 q.2) wF (((394 : Int32) + ((3 : Int32) * x1)), v_a)) (fun e_9 => ob1 (wh (fun k q => S_X11_takesSlot_58 (((v_a (8 : Int32).toNatClampNeg).toInt32) - (1 : Int32)) k q.1 q.2) wF (((394 : Int32) + ((3 : Int32) * (((v_a (8 : Int32).toNatClampNeg).toInt32) - (1 : Int32)))), e_9)) (fun e_16 => gi (8 : Int32) 499 (some (vp_updL e_16 (8 : Int32).toNatClampNeg ((((v_a (8 : Int32).toNatClampNeg).toInt32) - (1 : Int32)).toInt64))))))
def F_X11_removeSlot_b14 (x1 : Int32) (st_1 : Int32) (v_keptMany_2 : Int32) (v_thrown_3 : Int32) (v_a_4 : Nat → Int64) (v_kept_5 : Nat → Int64) : Option (Int32 × (Int32) × (Int32) × (Nat → Int64) × (Nat → Int64)) := if st_1 ≤ 0 then (ob2 (F_X11_keeps v_keptMany_2 v_a_4 v_kept_5) (fun v_keptMany_6 v_kept_7 => ob1 (F_X11_takesSlot x1 v_a_4) (fun v_a_8 => gi (8 : Int32) 499 (some (((v_a_8 (8 : Int32).toNatClampNeg).toInt32), v_keptMany_6, st_1, v_a_8, v_kept_7))))) else (some ((0 : Int32), v_keptMany_2, st_1, v_a_4, v_kept_5))
def F_X11_removeSlot (x1 : Int32) (v_keptMany : Int32) (v_thrown : Int32) (v_a : Nat → Int64) (v_kept : Nat → Int64) : Option (Int32 × (Int32) × (Int32) × (Nat → Int64) × (Nat → Int64)) := ob1 (F_X11_isSlot x1 v_a) (fun r_11 => if r_11 = 0 then (F_X11_removeSlot_b14 x1 (1 : Int32) v_keptMany v_thrown v_a v_kept) else (F_X11_removeSlot_b14 x1 (0 : Int32) v_keptMany v_thrown v_a v_kept))
def F_X11_moveSlot_b30 (x1 : Int32) (x2 : Int32) (st_1 : Int32) (v_keptMany_2 : Int32) (v_thrown_3 : Int32) (v_a_4 : Nat → Int64) (v_kept_5 : Nat → Int64) : Option (Int32 × (Int32) × (Int32) × (Nat → Int64) × (Nat → Int64)) := if st_1 ≤ 0 then (ob2 (F_X11_keeps v_keptMany_2 v_a_4 v_kept_5) (fun v_keptMany_6 v_kept_7 => ob1 (F_X11_ofSlot x1 (1 : Int32) v_a_4) (fun r_8 => ob1 (F_X11_ofSlot x1 (2 : Int32) v_a_4) (fun r_9 => ob1 (F_X11_takesSlot x1 v_a_4) (fun v_a_10 => ob2 (F_X11_putsSlot 499 x2 r_8 r_9 v_a_10) (fun r_11 v_a_12 => some (r_11, v_keptMany_6, st_1, v_a_12, v_kept_7))))))) else (some ((0 : Int32), v_keptMany_2, st_1, v_a_4, v_kept_5))
def F_X11_moveSlot (x1 : Int32) (x2 : Int32) (v_keptMany : Int32) (v_thrown : Int32) (v_a : Nat → Int64) (v_kept : Nat → Int64) : Option (Int32 × (Int32) × (Int32) × (Nat → Int64) × (Nat → Int64)) := ob1 (F_X11_isSlot x1 v_a) (fun r_14 => if r_14 = 0 then (F_X11_moveSlot_b30 x1 x2 (1 : Int32) v_keptMany v_thrown v_a v_kept) else (ob1 (F_X11_isIn (x2.toInt64) (0 : Int64) (9999 : Int64)) (fun r_15 => if r_15 = 0 then (F_X11_moveSlot_b30 x1 x2 (2 : Int32) v_keptMany v_thrown v_a v_kept) else (F_X11_moveSlot_b30 x1 x2 (0 : Int32) v_keptMany v_thrown v_a v_kept))))
def F_X11_slot_b30 (x1 : Int32) (x2 : Int32) (st_1 : Int32) (v_thrown_2 : Int32) (v_a : Nat → Int64) : Option (Int32 × (Int32)) := if st_1 ≤ 0 then (ob1 (F_X11_ofSlot x1 x2 v_a) (fun r_3 => some (r_3, st_1))) else (some ((0 : Int32), st_1))
def F_X11_slot (x1 : Int32) (x2 : Int32) (v_thrown : Int32) (v_a : Nat → Int64) : Option (Int32 × (Int32)) := ob1 (F_X11_isSlot x1 v_a) (fun r_5 => if r_5 = 0 then (F_X11_slot_b30 x1 x2 (1 : Int32) v_thrown v_a) else (ob1 (F_X11_isIn (x2.toInt64) (0 : Int64) (2 : Int64)) (fun r_6 => if r_6 = 0 then (F_X11_slot_b30 x1 x2 (2 : Int32) v_thrown v_a) else (F_X11_slot_b30 x1 x2 (0 : Int32) v_thrown v_a))))
def F_X11_placeOf_b14 (x1 : Int32) (st_1 : Int32) (v_thrown_2 : Int32) (v_toCut : Int32) (v_toLeave : Int32) (v_a : Nat → Int64) (v_worthFrom_3 : Nat → Int32) (v_cutsFrom_4 : Nat → Int32) (v_endFrom_5 : Nat → Int32) (v_changes_6 : Nat → Int32) (v_waysFrom_7 : Nat → Int64) (v_costAt_8 : Nat → Int32) (v_places_9 : Nat → Int32) (v_isCut_10 : Nat → Int32) : Option (Int32 × (Int32) × (Nat → Int32) × (Nat → Int32) × (Nat → Int32) × (Nat → Int32) × (Nat → Int64) × (Nat → Int32) × (Nat → Int32) × (Nat → Int32)) := if st_1 ≤ 0 then (ob9 (F_X11_laysPlaces v_toCut v_toLeave v_a v_worthFrom_3 v_cutsFrom_4 v_endFrom_5 v_changes_6 v_waysFrom_7 v_costAt_8 v_places_9 v_isCut_10) (fun r_11 v_worthFrom_12 v_cutsFrom_13 v_endFrom_14 v_changes_15 v_waysFrom_16 v_costAt_17 v_places_18 v_isCut_19 => if r_11 = (-1 : Int32) then (some ((-1 : Int32), st_1, v_worthFrom_12, v_cutsFrom_13, v_endFrom_14, v_changes_15, v_waysFrom_16, v_costAt_17, v_places_18, v_isCut_19)) else (gi x1 5 (some ((v_places_18 x1.toNatClampNeg), st_1, v_worthFrom_12, v_cutsFrom_13, v_endFrom_14, v_changes_15, v_waysFrom_16, v_costAt_17, v_places_18, v_isCut_19))))) else (some ((0 : Int32), st_1, v_worthFrom_3, v_cutsFrom_4, v_endFrom_5, v_changes_6, v_waysFrom_7, v_costAt_8, v_places_9, v_isCut_10))
def F_X11_placeOf (x1 : Int32) (v_thrown : Int32) (v_toCut : Int32) (v_toLeave : Int32) (v_a : Nat → Int64) (v_worthFrom : Nat → Int32) (v_cutsFrom : Nat → Int32) (v_endFrom : Nat → Int32) (v_changes : Nat → Int32) (v_waysFrom : Nat → Int64) (v_costAt : Nat → Int32) (v_places : Nat → Int32) (v_isCut : Nat → Int32) : Option (Int32 × (Int32) × (Nat → Int32) × (Nat → Int32) × (Nat → Int32) × (Nat → Int32) × (Nat → Int64) × (Nat → Int32) × (Nat → Int32) × (Nat → Int32)) := ob1 (F_X11_isSlot x1 v_a) (fun r_23 => if r_23 = 0 then (F_X11_placeOf_b14 x1 (1 : Int32) v_thrown v_toCut v_toLeave v_a v_worthFrom v_cutsFrom v_endFrom v_changes v_waysFrom v_costAt v_places v_isCut) else (F_X11_placeOf_b14 x1 (0 : Int32) v_thrown v_toCut v_toLeave v_a v_worthFrom v_cutsFrom v_endFrom v_changes v_waysFrom v_costAt v_places v_isCut))
def F_X11_placementCost (v_thrown : Int32) (v_toCut : Int32) (v_toLeave : Int32) (v_a : Nat → Int64) (v_worthFrom : Nat → Int32) (v_cutsFrom : Nat → Int32) (v_endFrom : Nat → Int32) (v_changes : Nat → Int32) (v_waysFrom : Nat → Int64) (v_costAt : Nat → Int32) (v_places : Nat → Int32) (v_isCut : Nat → Int32) : Option (Int32 × (Int32) × (Nat → Int32) × (Nat → Int32) × (Nat → Int32) × (Nat → Int32) × (Nat → Int64) × (Nat → Int32) × (Nat → Int32) × (Nat → Int32)) := ob9 (F_X11_laysPlaces v_toCut v_toLeave v_a v_worthFrom v_cutsFrom v_endFrom v_changes v_waysFrom v_costAt v_places v_isCut) (fun r_1 v_worthFrom_2 v_cutsFrom_3 v_endFrom_4 v_changes_5 v_waysFrom_6 v_costAt_7 v_places_8 v_isCut_9 => some (r_1, (0 : Int32), v_worthFrom_2, v_cutsFrom_3, v_endFrom_4, v_changes_5, v_waysFrom_6, v_costAt_7, v_places_8, v_isCut_9))
def S_X11_choices_30 (x1 : Int32) (v_thrown_5 : Int32) (v_a : Nat → Int64) (k : Int32 × Int32 → Option ((Int32))) (l2_3 : Int32) (l3_4 : Int32) : Option ((Int32)) := ob1 (F_X11_many v_a) (fun r_6 => if (r_6 - (1 : Int32)) ≤ l3_4 then (some (l2_3)) else (ob1 (F_X11_mayHave x1 l3_4 v_a) (fun r_7 => if r_7 = 0 then (k ((l2_3 + (0 : Int32)), (l3_4 + (1 : Int32)))) else (k ((l2_3 + (1 : Int32)), (l3_4 + (1 : Int32)))))))
def F_X11_choices_b14 (x1 : Int32) (st_1 : Int32) (v_thrown_2 : Int32) (v_a : Nat → Int64) : Option (Int32 × (Int32)) := if st_1 ≤ 0 then (ob1 (wh (fun k q => S_X11_choices_30 x1 st_1 v_a k q.1 q.2) wF ((0 : Int32), (0 : Int32))) (fun e_11 => some (e_11, st_1))) else (some ((0 : Int32), st_1))
def F_X11_choices (x1 : Int32) (v_thrown : Int32) (v_a : Nat → Int64) : Option (Int32 × (Int32)) := ob1 (F_X11_isSlot x1 v_a) (fun r_13 => if r_13 = 0 then (F_X11_choices_b14 x1 (1 : Int32) v_thrown v_a) else (F_X11_choices_b14 x1 (0 : Int32) v_thrown v_a))
def F_X11_keep_b103 (k : Int32 × (Nat → Int64) → Option (((Nat → Int64)))) (l1_11 : Int32) (st_12 : Int64) (st_13 : Int32) (v_keptMany_7 : Int32) (v_thrown_8 : Int32) (v_a_14 : Nat → Int64) (v_kept_10 : Nat → Int64) : Option (((Nat → Int64))) := gi st_13 499 (k ((l1_11 + (1 : Int32)), (vp_updL v_a_14 st_13.toNatClampNeg st_12)))
def F_X11_keep_b70 (k : Int32 × (Nat → Int64) → Option (((Nat → Int64)))) (l1_16 : Int32) (st_17 : Int64) (st_18 : Int32) (v_keptMany_7 : Int32) (v_thrown_8 : Int32) (v_a_19 : Nat → Int64) (v_kept_10 : Nat → Int64) : Option (((Nat → Int64))) := gi st_18 499 (ob1 (F_X11_many (vp_updL v_a_19 st_18.toNatClampNeg st_17)) (fun r_21 => if r_21 ≤ l1_16 then (F_X11_keep_b103 k l1_16 (0 : Int64) (((411 : Int32) + ((2 : Int32) * l1_16)) + (1 : Int32)) v_keptMany_7 v_thrown_8 (vp_updL v_a_19 st_18.toNatClampNeg st_17) v_kept_10) else (ob1 (F_X11_of l1_16 (0 : Int32) (vp_updL v_a_19 st_18.toNatClampNeg st_17)) (fun r_22 => F_X11_keep_b103 k l1_16 (r_22.toInt64) (((411 : Int32) + ((2 : Int32) * l1_16)) + (1 : Int32)) v_keptMany_7 v_thrown_8 (vp_updL v_a_19 st_18.toNatClampNeg st_17) v_kept_10))))
def S_X11_keep_33 (v_keptMany_7 : Int32) (v_thrown_8 : Int32) (v_kept_10 : Nat → Int64) (k : Int32 × (Nat → Int64) → Option (((Nat → Int64)))) (l1_6 : Int32) (v_a_9 : Nat → Int64) : Option (((Nat → Int64))) := if (32 : Int32) ≤ l1_6 then (some (v_a_9)) else (ob1 (F_X11_many v_a_9) (fun r_24 => if r_24 ≤ l1_6 then (F_X11_keep_b70 k l1_6 (0 : Int64) ((411 : Int32) + ((2 : Int32) * l1_6)) v_keptMany_7 v_thrown_8 v_a_9 v_kept_10) else (ob1 (F_X11_of l1_6 (11 : Int32) v_a_9) (fun r_25 => F_X11_keep_b70 k l1_6 (r_25.toInt64) ((411 : Int32) + ((2 : Int32) * l1_6)) v_keptMany_7 v_thrown_8 v_a_9 v_kept_10))))
def F_X11_keep (v_keptMany : Int32) (v_thrown : Int32) (v_a : Nat → Int64) (v_kept : Nat → Int64) : Option (Int32 × (Int32) × (Int32) × (Nat → Int64) × (Nat → Int64)) := ob2 (F_X11_keeps v_keptMany v_a v_kept) (fun v_keptMany_1 v_kept_2 => gi (409 : Int32) 499 (ob1 (F_X11_many (vp_updL v_a (409 : Int32).toNatClampNeg (1 : Int64))) (fun r_4 => gi (410 : Int32) 499 (ob1 (wh (fun k q => S_X11_keep_33 v_keptMany_1 (0 : Int32) v_kept_2 k q.1 q.2) wF ((0 : Int32), (vp_updL (vp_updL v_a (409 : Int32).toNatClampNeg (1 : Int64)) (410 : Int32).toNatClampNeg (r_4.toInt64)))) (fun e_29 => ob1 (F_X11_many e_29) (fun r_30 => ob1 (F_X11_spoken r_30 e_29) (fun r_31 => some (r_31, v_keptMany_1, (0 : Int32), e_29, v_kept_2))))))))
def S_X11_keptTime_4 (v_a : Nat → Int64) (k : Int32 × Int32 → Option ((Int32))) (l1_1 : Int32) (l2_2 : Int32) : Option ((Int32)) := gi (410 : Int32) 499 (if 0 ≤ (lg_cmp (l2_2.toInt64) (v_a (410 : Int32).toNatClampNeg)) then (some (l1_1)) else (gi (((411 : Int32) + ((2 : Int32) * l2_2)) + (1 : Int32)) 499 (k ((l1_1 + ((v_a (((411 : Int32) + ((2 : Int32) * l2_2)) + (1 : Int32)).toNatClampNeg).toInt32)), (l2_2 + (1 : Int32))))))
def F_X11_keptTime (v_a : Nat → Int64) : Option (Int32) := ob1 (wh (fun k q => S_X11_keptTime_4 v_a k q.1 q.2) wF ((0 : Int32), (0 : Int32))) (fun e_7 => some e_7)
def S_X11_nowAt_2 (x1 : Int32) (v_a : Nat → Int64) (k : Int32 → Option ((Int32) ⊕ (Unit))) (l2_1 : Int32) : Option ((Int32) ⊕ (Unit)) := ob1 (F_X11_many v_a) (fun r_2 => if r_2 ≤ l2_1 then (some (.inr ())) else (ob1 (F_X11_of l2_1 (11 : Int32) v_a) (fun r_3 => gi ((411 : Int32) + ((2 : Int32) * x1)) 499 (if (lg_cmp (r_3.toInt64) (v_a ((411 : Int32) + ((2 : Int32) * x1)).toNatClampNeg)) = 0 then (some (.inl (l2_1))) else (k (l2_1 + (1 : Int32)))))))
def F_X11_nowAt (x1 : Int32) (v_a : Nat → Int64) : Option (Int32) := ob1 (wh (fun k q => S_X11_nowAt_2 x1 v_a k q) wF (0 : Int32)) (Sum.elim (un1 (fun e_8 => some e_8)) (un1 (fun _u => some (-1 : Int32))))
def S_X11_carried_55 (v_thrown_5 : Int32) (v_a : Nat → Int64) (k : Int32 × Int32 → Option ((Int32 × Int32))) (l2_3 : Int32) (l3_4 : Int32) : Option ((Int32 × Int32)) := gi (((411 : Int32) + ((2 : Int32) * l2_3)) + (1 : Int32)) 499 (if (lg_cmp (l3_4.toInt64) (v_a (((411 : Int32) + ((2 : Int32) * l2_3)) + (1 : Int32)).toNatClampNeg)) < 0 then (some (l2_3, l3_4)) else (gi (((411 : Int32) + ((2 : Int32) * l2_3)) + (1 : Int32)) 499 (k ((l2_3 + (1 : Int32)), (l3_4 - ((v_a (((411 : Int32) + ((2 : Int32) * l2_3)) + (1 : Int32)).toNatClampNeg).toInt32))))))
def S_X11_carried_147 (v_thrown_15 : Int32) (v_a : Nat → Int64) (k : Int32 → Option ((Int32) ⊕ (Unit))) (l5_14 : Int32) : Option ((Int32) ⊕ (Unit)) := gi (410 : Int32) 499 (if 0 ≤ (lg_cmp (l5_14.toInt64) (v_a (410 : Int32).toNatClampNeg)) then (some (.inr ())) else (ob1 (F_X11_nowAt l5_14 v_a) (fun r_17 => if r_17 = (-1 : Int32) then (k (l5_14 + (1 : Int32))) else (some (.inl (l5_14))))))
def F_X11_carried_b39 (x1 : Int32) (st_1 : Int32) (v_thrown_2 : Int32) (v_a : Nat → Int64) : Option (Int32 × (Int32)) := if st_1 ≤ 0 then (ob2 (wh (fun k q => S_X11_carried_55 st_1 v_a k q.1 q.2) wF ((0 : Int32), x1)) (fun e_11 e_12 => ob1 (F_X11_nowAt e_11 v_a) (fun r_13 => if r_13 = (-1 : Int32) then (ob1 (wh (fun k q => S_X11_carried_147 st_1 v_a k q) wF (e_11 + (1 : Int32))) (Sum.elim (un1 (fun e_21 => ob1 (F_X11_nowAt e_21 v_a) (fun r_22 => ob1 (F_X11_spoken r_22 v_a) (fun r_23 => some (r_23, st_1))))) (un1 (fun _u => ob1 (F_X11_many v_a) (fun r_25 => ob1 (F_X11_spoken r_25 v_a) (fun r_26 => some (r_26, st_1))))))) else (ob1 (F_X11_spoken r_13 v_a) (fun r_28 => ob1 (F_X11_of r_13 (0 : Int32) v_a) (fun r_29 => if r_29 ≤ e_12 then (ob1 (F_X11_of r_13 (0 : Int32) v_a) (fun r_30 => some ((r_28 + r_30), st_1))) else (some ((r_28 + e_12), st_1)))))))) else (some ((0 : Int32), st_1))
def F_X11_carried (x1 : Int32) (v_thrown : Int32) (v_a : Nat → Int64) : Option (Int32 × (Int32)) := gi (409 : Int32) 499 (if (lg_cmp (v_a (409 : Int32).toNatClampNeg) (0 : Int64)) = 0 then (F_X11_carried_b39 x1 (1 : Int32) v_thrown v_a) else (ob1 (F_X11_keptTime v_a) (fun r_35 => ob1 (F_X11_isIn (x1.toInt64) (0 : Int64) ((r_35 - (1 : Int32)).toInt64)) (fun r_36 => if r_36 = 0 then (F_X11_carried_b39 x1 (2 : Int32) v_thrown v_a) else (F_X11_carried_b39 x1 (0 : Int32) v_thrown v_a)))))
def F_X11_says (x1 : Int32) (v_writtenMany : Int32) (v_written : Nat → Int32) : Option ((Int32) × (Nat → Int32)) := gi v_writtenMany 1200 (some ((v_writtenMany + (1 : Int32)), (upd v_written v_writtenMany.toNatClampNeg x1)))
def F_X11_saysNumber_b14 (x1 : Int32) (v_writtenMany_1 : Int32) (v_written_2 : Nat → Int32) : Option ((Int32) × (Nat → Int32)) := gzi (10 : Int32) (ob2 (F_X11_says ((48 : Int32) + (x1 - x1 / (10 : Int32) * (10 : Int32))) v_writtenMany_1 v_written_2) (fun v_writtenMany_4 v_written_5 => some (v_writtenMany_4, v_written_5)))
def F_X11_saysNumber : Nat → Int32 → (Int32) → (Nat → Int32) → Option ((Int32) × (Nat → Int32))
  | 0, _, _, _ => none
  | d + 1, x1, v_writtenMany, v_written => if x1 ≤ (9 : Int32) then (F_X11_saysNumber_b14 x1 v_writtenMany v_written) else (gzi (10 : Int32) (ob2 (F_X11_saysNumber d (x1 / (10 : Int32)) v_writtenMany v_written) (fun v_writtenMany_7 v_written_8 => F_X11_saysNumber_b14 x1 v_writtenMany_7 v_written_8)))
def F_X11_saysName_b17 (x1 : Int64) (v_writtenMany_1 : Int32) (v_written_2 : Nat → Int32) : Option ((Int32) × (Nat → Int32)) := gzj (32 : Int64) (ob2 (F_X11_says (((x1 - x1 / (32 : Int64) * (32 : Int64)).toInt32) + (96 : Int32)) v_writtenMany_1 v_written_2) (fun v_writtenMany_4 v_written_5 => some (v_writtenMany_4, v_written_5)))
def F_X11_saysName : Nat → Int64 → (Int32) → (Nat → Int32) → Option ((Int32) × (Nat → Int32))
  | 0, _, _, _ => none
  | d + 1, x1, v_writtenMany, v_written => if (lg_cmp x1 (32 : Int64)) < 0 then (F_X11_saysName_b17 x1 v_writtenMany v_written) else (gzj (32 : Int64) (ob2 (F_X11_saysName d (x1 / (32 : Int64)) v_writtenMany v_written) (fun v_writtenMany_7 v_written_8 => F_X11_saysName_b17 x1 v_writtenMany_7 v_written_8)))
def F_X11_writeChapters_b97 (k : Int32 × (Int32) × (Nat → Int32) → Option (((Int32) × (Nat → Int32)))) (l1_14 : Int32) (l2_41 : Int32) (l3_53 : Int32) (l4_54 : Int32) (v_thrown_16 : Int32) (v_toCut : Int32) (v_toLeave : Int32) (v_writtenMany_55 : Int32) (v_a : Nat → Int64) (v_worthFrom_44 : Nat → Int32) (v_cutsFrom_45 : Nat → Int32) (v_endFrom_46 : Nat → Int32) (v_changes_47 : Nat → Int32) (v_waysFrom_48 : Nat → Int64) (v_costAt_49 : Nat → Int32) (v_places_50 : Nat → Int32) (v_isCut_51 : Nat → Int32) (v_written_56 : Nat → Int32) : Option (((Int32) × (Nat → Int32))) := gi ((475 : Int32) + l4_54) 499 (ob2 (F_X11_saysName 10 (v_a ((475 : Int32) + l4_54).toNatClampNeg) v_writtenMany_55 v_written_56) (fun v_writtenMany_58 v_written_59 => k ((l3_53 + (1 : Int32)), v_writtenMany_58, v_written_59)))
def S_X11_writeChapters_65 (l1_14 : Int32) (l2_41 : Int32) (v_thrown_16 : Int32) (v_toCut : Int32) (v_toLeave : Int32) (v_a : Nat → Int64) (v_worthFrom_44 : Nat → Int32) (v_cutsFrom_45 : Nat → Int32) (v_endFrom_46 : Nat → Int32) (v_changes_47 : Nat → Int32) (v_waysFrom_48 : Nat → Int64) (v_costAt_49 : Nat → Int32) (v_places_50 : Nat → Int32) (v_isCut_51 : Nat → Int32) (k : Int32 × (Int32) × (Nat → Int32) → Option (((Int32) × (Nat → Int32)))) (l3_42 : Int32) (v_writtenMany_43 : Int32) (v_written_52 : Nat → Int32) : Option (((Int32) × (Nat → Int32))) := if (3 : Int32) ≤ l3_42 then (some (v_writtenMany_43, v_written_52)) else (ob1 (F_X11_titleWord l2_41 l3_42 v_a v_cutsFrom_45 v_endFrom_46) (fun r_60 => if r_60 = (-1 : Int32) then (k ((l3_42 + (1 : Int32)), v_writtenMany_43, v_written_52)) else (if l3_42 ≤ 0 then (F_X11_writeChapters_b97 k l1_14 l2_41 l3_42 r_60 v_thrown_16 v_toCut v_toLeave v_writtenMany_43 v_a v_worthFrom_44 v_cutsFrom_45 v_endFrom_46 v_changes_47 v_waysFrom_48 v_costAt_49 v_places_50 v_isCut_51 v_written_52) else (ob2 (F_X11_says (45 : Int32) v_writtenMany_43 v_written_52) (fun v_writtenMany_61 v_written_62 => F_X11_writeChapters_b97 k l1_14 l2_41 l3_42 r_60 v_thrown_16 v_toCut v_toLeave v_writtenMany_61 v_a v_worthFrom_44 v_cutsFrom_45 v_endFrom_46 v_changes_47 v_waysFrom_48 v_costAt_49 v_places_50 v_isCut_51 v_written_62)))))
def S_X11_writeChapters_39 (l1_14 : Int32) (v_thrown_16 : Int32) (v_toCut : Int32) (v_toLeave : Int32) (v_a : Nat → Int64) (k : Int32 × (Int32) × (Nat → Int32) × (Nat → Int32) × (Nat → Int32) × (Nat → Int32) × (Nat → Int64) × (Nat → Int32) × (Nat → Int32) × (Nat → Int32) × (Nat → Int32) → Option (((Int32) × (Nat → Int32) × (Nat → Int32) × (Nat → Int32) × (Nat → Int32) × (Nat → Int64) × (Nat → Int32) × (Nat → Int32) × (Nat → Int32) × (Nat → Int32)))) (l2_15 : Int32) (v_writtenMany_17 : Int32) (v_worthFrom_18 : Nat → Int32) (v_cutsFrom_19 : Nat → Int32) (v_endFrom_20 : Nat → Int32) (v_changes_21 : Nat → Int32) (v_waysFrom_22 : Nat → Int64) (v_costAt_23 : Nat → Int32) (v_places_24 : Nat → Int32) (v_isCut_25 : Nat → Int32) (v_written_26 : Nat → Int32) : Option (((Int32) × (Nat → Int32) × (Nat → Int32) × (Nat → Int32) × (Nat → Int32) × (Nat → Int64) × (Nat → Int32) × (Nat → Int32) × (Nat → Int32) × (Nat → Int32))) := if l1_14 < l2_15 then (some (v_writtenMany_17, v_worthFrom_18, v_cutsFrom_19, v_endFrom_20, v_changes_21, v_waysFrom_22, v_costAt_23, v_places_24, v_isCut_25, v_written_26)) else (ob1 (F_X11_beginOf l2_15 v_endFrom_20) (fun r_27 => ob9 (F_X11_realTime r_27 v_toCut v_toLeave v_a v_worthFrom_18 v_cutsFrom_19 v_endFrom_20 v_changes_21 v_waysFrom_22 v_costAt_23 v_places_24 v_isCut_25) (fun r_28 v_worthFrom_29 v_cutsFrom_30 v_endFrom_31 v_changes_32 v_waysFrom_33 v_costAt_34 v_places_35 v_isCut_36 => ob2 (F_X11_saysNumber 12 r_28 v_writtenMany_17 v_written_26) (fun v_writtenMany_37 v_written_38 => ob2 (F_X11_says (32 : Int32) v_writtenMany_37 v_written_38) (fun v_writtenMany_39 v_written_40 => ob2 (wh (fun k q => S_X11_writeChapters_65 l1_14 l2_15 v_thrown_16 v_toCut v_toLeave v_a v_worthFrom_29 v_cutsFrom_30 v_endFrom_31 v_changes_32 v_waysFrom_33 v_costAt_34 v_places_35 v_isCut_36 k q.1 q.2.1 q.2.2) wF ((0 : Int32), v_writtenMany_39, v_written_40)) (fun e_68 e_69 => ob2 (F_X11_says (59 : Int32) e_68 e_69) (fun v_writtenMany_70 v_written_71 => k ((l2_15 + (1 : Int32)), v_writtenMany_70, v_worthFrom_29, v_cutsFrom_30, v_endFrom_31, v_changes_32, v_waysFrom_33, v_costAt_34, v_places_35, v_isCut_36, v_written_71))))))))
def F_X11_writeChapters_b13 (st_1 : Int32) (v_thrown_2 : Int32) (v_toCut : Int32) (v_toLeave : Int32) (v_writtenMany_3 : Int32) (v_a : Nat → Int64) (v_worthFrom_4 : Nat → Int32) (v_cutsFrom_5 : Nat → Int32) (v_endFrom_6 : Nat → Int32) (v_changes_7 : Nat → Int32) (v_waysFrom_8 : Nat → Int64) (v_costAt_9 : Nat → Int32) (v_places_10 : Nat → Int32) (v_isCut_11 : Nat → Int32) (v_written_12 : Nat → Int32) : Option (Int32 × (Int32) × (Int32) × (Nat → Int32) × (Nat → Int32) × (Nat → Int32) × (Nat → Int32) × (Nat → Int64) × (Nat → Int32) × (Nat → Int32) × (Nat → Int32) × (Nat → Int32)) := if st_1 ≤ 0 then (gi (0 : Int32) 33 (ob10 (wh (fun k q => S_X11_writeChapters_39 (v_cutsFrom_5 (0 : Int32).toNatClampNeg) st_1 v_toCut v_toLeave v_a k q.1 q.2.1 q.2.2.1 q.2.2.2.1 q.2.2.2.2.1 q.2.2.2.2.2.1 q.2.2.2.2.2.2.1 q.2.2.2.2.2.2.2.1 q.2.2.2.2.2.2.2.2.1 q.2.2.2.2.2.2.2.2.2.1 q.2.2.2.2.2.2.2.2.2.2) wF ((0 : Int32), (0 : Int32), v_worthFrom_4, v_cutsFrom_5, v_endFrom_6, v_changes_7, v_waysFrom_8, v_costAt_9, v_places_10, v_isCut_11, v_written_12)) (fun e_83 e_84 e_85 e_86 e_87 e_88 e_89 e_90 e_91 e_92 => some (e_83, st_1, e_83, e_84, e_85, e_86, e_87, e_88, e_89, e_90, e_91, e_92)))) else (some ((0 : Int32), st_1, v_writtenMany_3, v_worthFrom_4, v_cutsFrom_5, v_endFrom_6, v_changes_7, v_waysFrom_8, v_costAt_9, v_places_10, v_isCut_11, v_written_12))
def F_X11_writeChapters (v_thrown : Int32) (v_toCut : Int32) (v_toLeave : Int32) (v_writtenMany : Int32) (v_a : Nat → Int64) (v_worthFrom : Nat → Int32) (v_cutsFrom : Nat → Int32) (v_endFrom : Nat → Int32) (v_changes : Nat → Int32) (v_waysFrom : Nat → Int64) (v_costAt : Nat → Int32) (v_places : Nat → Int32) (v_isCut : Nat → Int32) (v_written : Nat → Int32) : Option (Int32 × (Int32) × (Int32) × (Nat → Int32) × (Nat → Int32) × (Nat → Int32) × (Nat → Int32) × (Nat → Int64) × (Nat → Int32) × (Nat → Int32) × (Nat → Int32) × (Nat → Int32)) := ob6 (F_X11_hasBest v_toCut v_toLeave v_a v_worthFrom v_cutsFrom v_endFrom v_changes v_waysFrom) (fun r_94 v_worthFrom_95 v_cutsFrom_96 v_endFrom_97 v_changes_98 v_waysFrom_99 => if r_94 = 0 then (F_X11_writeChapters_b13 (1 : Int32) v_thrown v_toCut v_toLeave v_writtenMany v_a v_worthFrom_95 v_cutsFrom_96 v_endFrom_97 v_changes_98 v_waysFrom_99 v_costAt v_places v_isCut v_written) else (F_X11_writeChapters_b13 (0 : Int32) v_thrown v_toCut v_toLeave v_writtenMany v_a v_worthFrom_95 v_cutsFrom_96 v_endFrom_97 v_changes_98 v_waysFrom_99 v_costAt v_places v_isCut v_written))
def F_X11_writtenByte_b22 (x1 : Int32) (st_1 : Int32) (v_thrown_2 : Int32) (v_written : Nat → Int32) : Option (Int32 × (Int32)) := if st_1 ≤ 0 then (gi x1 1200 (some ((v_written x1.toNatClampNeg), st_1))) else (some ((0 : Int32), st_1))
def F_X11_writtenByte (x1 : Int32) (v_thrown : Int32) (v_writtenMany : Int32) (v_written : Nat → Int32) : Option (Int32 × (Int32)) := ob1 (F_X11_isIn (x1.toInt64) (0 : Int64) ((v_writtenMany - (1 : Int32)).toInt64)) (fun r_5 => if r_5 = 0 then (F_X11_writtenByte_b22 x1 (1 : Int32) v_thrown v_written) else (F_X11_writtenByte_b22 x1 (0 : Int32) v_thrown v_written))
theorem hy_X11_append : yX11_append.cls = RX11 ∧ yX11_append.cls ≠ "java/lang/invoke/MethodHandle" ∧ yX11_append.cls ≠ "java/lang/invoke/VarHandle" ∧ (parseMethodDescriptor yX11_append.desc).map (fun d => d.parameters.length) = some 5 := by decide +kernel
set_option maxRecDepth 20000 in
set_option maxHeartbeats 4000000 in
theorem k_X11_append (l : Launch) (D : va_G) (cI cJ cZ cO : ClassId) (z : Nat → Nat)   (h_t_ : Nat) (h_buffer : Nat) (h_a : Nat) (h_fresh : Nat) (h_kept : Nat) (h_worthFrom : Nat) (h_cutsFrom : Nat) (h_endFrom : Nat) (h_changes : Nat) (h_waysFrom : Nat) (h_costAt : Nat) (h_places : Nat) (h_isCut : Nat) (h_written : Nat) (x1 : Int32) (x2 : Int32) (x3 : Int32) (x4 : Int32) (x5 : Int32) (v_keptMany : Int32) (v_thrown : Int32) (v_buffered : Int32) (v_size : Int32) (v_at : Int32) (v_behind : Int32) (v_kind : Int32) (v_wrong : Int32) (v_wrongAt : Int32) (v_errorAt : Int32) (v_number : Int64) (v_toCut : Int32) (v_toLeave : Int32) (v_writtenMany : Int32) (v_buffer : Nat → Int32) (r_ : Int32) (w_thrown : Int32) (w_buffered : Int32) (w_buffer : Nat → Int32) (hF : F_X11_append x1 x2 x3 x4 x5 v_thrown v_buffered v_buffer = some (r_, w_thrown, w_buffered, w_buffer)) : Mi l yX11_append wsX11_append (rmD 0) D (gq_ty cI cJ cZ cO) z [.ref h_t_, .int x1, .int x2, .int x3, .int x4, .int x5] [(h_t_, .inr (11, [.ref h_a, .ref h_fresh, .ref h_kept, .int v_keptMany, .int v_thrown, .ref h_buffer, .int v_buffered, .int v_size, .int v_at, .int v_behind, .int v_kind, .int v_wrong, .int v_wrongAt, .int v_errorAt, .long v_number, .ref h_worthFrom, .ref h_cutsFrom, .ref h_endFrom, .ref h_changes, .ref h_waysFrom, .int v_toCut, .int v_toLeave, .ref h_costAt, .ref h_places, .ref h_isCut, .ref h_written, .int v_writtenMany])), (h_buffer, .inl (cI, 900, .inl v_buffer))] r_ [(h_t_, .inr (11, [.ref h_a, .ref h_fresh, .ref h_kept, .int v_keptMany, .int w_thrown, .ref h_buffer, .int w_buffered, .int v_size, .int v_at, .int v_behind, .int v_kind, .int v_wrong, .int v_wrongAt, .int v_errorAt, .long v_number, .ref h_worthFrom, .ref h_cutsFrom, .ref h_endFrom, .ref h_changes, .ref h_waysFrom, .int v_toCut, .int v_toLeave, .ref h_costAt, .ref h_places, .ref h_isCut, .ref h_written, .int v_writtenMany])), (h_buffer, .inl (cI, 900, .inl w_buffer))] 0 0 := by
  refine Mi.of (cc := cX11_append) (maxL := 8) (by decide) rfl (Nat.le_of_ble_eq_true rfl) ⟨Nat.le_refl 0, Nat.le_refl 0⟩ ?_
  intro p e s m args below meth c A hC ha
  have hin_X11 : ∀ w ∈ wsX110, w ∈ wsX11_append := by decide +kernel
  have hw_19 : Cond.fieldLink RX11 19 (TX11 5).1 (TX11 5).2.1 (TX11 5).2.2.1 ∈ wsX11_append := by decide +kernel
  have hw_79 : Cond.fieldLink RX11 79 (TX11 4).1 (TX11 4).2.1 (TX11 4).2.2.1 ∈ wsX11_append := by decide +kernel
  have hw_85 : Cond.fieldLink RX11 85 (TX11 6).1 (TX11 6).2.1 (TX11 6).2.2.1 ∈ wsX11_append := by decide +kernel
  obtain ⟨Q, hQ⟩ : ∃ Q, Q = gq_Qi below D A args s r_ [(h_t_, .inr (11, [.ref h_a, .ref h_fresh, .ref h_kept, .int v_keptMany, .int w_thrown, .ref h_buffer, .int w_buffered, .int v_size, .int v_at, .int v_behind, .int v_kind, .int v_wrong, .int v_wrongAt, .int v_errorAt, .long v_number, .ref h_worthFrom, .ref h_cutsFrom, .ref h_endFrom, .ref h_changes, .ref h_waysFrom, .int v_toCut, .int v_toLeave, .ref h_costAt, .ref h_places, .ref h_isCut, .ref h_written, .int v_writtenMany])), (h_buffer, .inl (cI, 900, .inl w_buffer))] 0 0 := ⟨_, rfl⟩
  rw [← hQ]
  refine gq_loc [(0, .ref h_t_), (1, .int x1), (2, .int x2), (3, .int x3), (4, .int x4), (5, .int x5)] rfl ?_
  have jb19 : ∀ (st_1 : Int32) (v_thrown_2 : Int32) (v_buffered_3 : Int32) (v_buffer_4 : Nat → Int32), F_X11_append_b19 x1 x2 x3 x4 x5 st_1 v_thrown_2 v_buffered_3 v_buffer_4 = some (r_, w_thrown, w_buffered, w_buffer) → Gx p l e (rmD 0) s m args below meth c D A 8 Q 0 0 19 [(0, .ref h_t_), (1, .int x1), (2, .int x2), (3, .int x3), (4, .int x4), (5, .int x5)] [.int st_1, .ref h_t_] [(h_t_, .inr (11, [.ref h_a, .ref h_fresh, .ref h_kept, .int v_keptMany, .int v_thrown_2, .ref h_buffer, .int v_buffered_3, .int v_size, .int v_at, .int v_behind, .int v_kind, .int v_wrong, .int v_wrongAt, .int v_errorAt, .long v_number, .ref h_worthFrom, .ref h_cutsFrom, .ref h_endFrom, .ref h_changes, .ref h_waysFrom, .int v_toCut, .int v_toLeave, .ref h_costAt, .ref h_places, .ref h_isCut, .ref h_written, .int v_writtenMany])), (h_buffer, .inl (cI, 900, .inl v_buffer_4))] := by
    intro st_1 v_thrown_2 v_buffered_3 v_buffer_4 hF
    unfold F_X11_append_b19 at hF
    refine gq_put1 hC (kf := 4) 0 [(h_t_, .inr (11, [.ref h_a, .ref h_fresh, .ref h_kept, .int v_keptMany, .int st_1, .ref h_buffer, .int v_buffered_3, .int v_size, .int v_at, .int v_behind, .int v_kind, .int v_wrong, .int v_wrongAt, .int v_errorAt, .long v_number, .ref h_worthFrom, .ref h_cutsFrom, .ref h_endFrom, .ref h_changes, .ref h_waysFrom, .int v_toCut, .int v_toLeave, .ref h_costAt, .ref h_places, .ref h_isCut, .ref h_written, .int v_writtenMany])), (h_buffer, .inl (cI, 900, .inl v_buffer_4))] tyX11 tyX11_ok nmX11 hin_X11 rfl rfl (by decide) hw_79 rfl rfl rfl (Nat.le_of_ble_eq_true rfl) dX11_append_19 rfl ?_
    refine gq_aload_n hC 0 dX11_append_22 rfl rfl ?_
    refine gq_get hC (kf := 4) 0 hin_X11 rfl rfl (by decide) hw_79 rfl dX11_append_23 ?_
    refine gq_if_le hC 31 dX11_append_26 (by decide) (fun hc_24 => ?_) (fun hc_24 => ?_)
    · have hF := (if_pos hc_24).symm.trans hF
      refine gq_iconst hC (0 : Int32) dX11_append_31 (by decide) ?_
      refine gq_istore hC [(6, .int (0 : Int32)), (0, .ref h_t_), (1, .int x1), (2, .int x2), (3, .int x3), (4, .int x4), (5, .int x5)] dX11_append_32 (by decide) rfl ?_
      have lp34 : ∀ (v_thrown_6 : Int32), ∀ (e_20 : (Int32)) (e_21 : (Nat → Int32)), Gx p l e (rmD 0) s m args below meth c D A 8 Q 0 0 131 [(0, .ref h_t_)] [] [(h_t_, .inr (11, [.ref h_a, .ref h_fresh, .ref h_kept, .int v_keptMany, .int v_thrown_6, .ref h_buffer, .int e_20, .int v_size, .int v_at, .int v_behind, .int v_kind, .int v_wrong, .int v_wrongAt, .int v_errorAt, .long v_number, .ref h_worthFrom, .ref h_cutsFrom, .ref h_endFrom, .ref h_changes, .ref h_waysFrom, .int v_toCut, .int v_toLeave, .ref h_costAt, .ref h_places, .ref h_isCut, .ref h_written, .int v_writtenMany])), (h_buffer, .inl (cI, 900, .inl e_21))] → ∀ (N : Nat) (l6_5 : Int32) (v_buffered_7 : Int32) (v_buffer_8 : Nat → Int32), wh (fun k q => S_X11_append_34 x1 x2 x3 x4 x5 v_thrown_6 k q.1 q.2.1 q.2.2) N (l6_5, v_buffered_7, v_buffer_8) = some (e_20, e_21) → Gx p l e (rmD 0) s m args below meth c D A 8 Q 0 0 34 [(0, .ref h_t_), (1, .int x1), (2, .int x2), (3, .int x3), (4, .int x4), (5, .int x5), (6, .int l6_5)] [] [(h_t_, .inr (11, [.ref h_a, .ref h_fresh, .ref h_kept, .int v_keptMany, .int v_thrown_6, .ref h_buffer, .int v_buffered_7, .int v_size, .int v_at, .int v_behind, .int v_kind, .int v_wrong, .int v_wrongAt, .int v_errorAt, .long v_number, .ref h_worthFrom, .ref h_cutsFrom, .ref h_endFrom, .ref h_changes, .ref h_waysFrom, .int v_toCut, .int v_toLeave, .ref h_costAt, .ref h_places, .ref h_isCut, .ref h_written, .int v_writtenMany])), (h_buffer, .inl (cI, 900, .inl v_buffer_8))] := by
        intro v_thrown_6 e_20 e_21 hx0 N
        induction N with
        | zero => intro l6_5 v_buffered_7 v_buffer_8 hw; exact absurd hw (wh_0 _ _ _)
        | succ N ih =>
          have jb87 : ∀ (l6_9 : Int32) (st_10 : Int32) (v_buffered_11 : Int32) (v_buffer_12 : Nat → Int32), F_X11_append_b87 (wh (fun k q => S_X11_append_34 x1 x2 x3 x4 x5 v_thrown_6 k q.1 q.2.1 q.2.2) N) x1 x2 x3 x4 x5 l6_9 st_10 v_thrown_6 v_buffered_11 v_buffer_12 = some (e_20, e_21) → Gx p l e (rmD 0) s m args below meth c D A 8 Q 0 0 87 [(0, .ref h_t_), (1, .int x1), (2, .int x2), (3, .int x3), (4, .int x4), (5, .int x5), (6, .int l6_9)] [.int st_10] [(h_t_, .inr (11, [.ref h_a, .ref h_fresh, .ref h_kept, .int v_keptMany, .int v_thrown_6, .ref h_buffer, .int v_buffered_11, .int v_size, .int v_at, .int v_behind, .int v_kind, .int v_wrong, .int v_wrongAt, .int v_errorAt, .long v_number, .ref h_worthFrom, .ref h_cutsFrom, .ref h_endFrom, .ref h_changes, .ref h_waysFrom, .int v_toCut, .int v_toLeave, .ref h_costAt, .ref h_places, .ref h_isCut, .ref h_written, .int v_writtenMany])), (h_buffer, .inl (cI, 900, .inl v_buffer_12))] := by
            intro l6_9 st_10 v_buffered_11 v_buffer_12 hF
            unfold F_X11_append_b87 at hF
            refine gq_istore hC [(7, .int st_10), (0, .ref h_t_), (1, .int x1), (2, .int x2), (3, .int x3), (4, .int x4), (5, .int x5), (6, .int l6_9)] dX11_append_87 (by decide) rfl ?_
            refine gq_aload_n hC 1 dX11_append_89 rfl rfl ?_
            refine gq_get hC (kf := 5) 0 hin_X11 rfl rfl (by decide) hw_19 rfl dX11_append_90 ?_
            refine gq_aload_n hC 1 dX11_append_93 rfl rfl ?_
            refine gq_get hC (kf := 6) 0 hin_X11 rfl rfl (by decide) hw_85 rfl dX11_append_94 ?_
            refine gq_iload hC 0 dX11_append_97 rfl ?_
            refine gq_bipush hC (24 : Int32) dX11_append_99 (by decide) ?_
            refine gq_bipush hC (8 : Int32) dX11_append_101 (by decide) ?_
            refine gq_iload hC 7 dX11_append_103 rfl ?_
            refine gq_iconst hC (4 : Int32) dX11_append_105 (by decide) ?_
            obtain ⟨hz_13, hF⟩ := gzi_e hF
            refine gq_irem hC dX11_append_106 hz_13 ?_
            refine gq_imul hC dX11_append_107 ?_
            refine gq_isub hC dX11_append_108 ?_
            refine gq_ishr hC dX11_append_109 ?_
            refine gq_sipush hC (255 : Int32) dX11_append_110 (by decide) ?_
            refine gq_iand hC dX11_append_113 ?_
            obtain ⟨hi_14, hF⟩ := gi_e hF
            refine gq_iast hC 1 0 [(h_t_, .inr (11, [.ref h_a, .ref h_fresh, .ref h_kept, .int v_keptMany, .int v_thrown_6, .ref h_buffer, .int v_buffered_11, .int v_size, .int v_at, .int v_behind, .int v_kind, .int v_wrong, .int v_wrongAt, .int v_errorAt, .long v_number, .ref h_worthFrom, .ref h_cutsFrom, .ref h_endFrom, .ref h_changes, .ref h_waysFrom, .int v_toCut, .int v_toLeave, .ref h_costAt, .ref h_places, .ref h_isCut, .ref h_written, .int v_writtenMany])), (h_buffer, .inl (cI, 900, .inl (upd v_buffer_12 v_buffered_11.toNatClampNeg ((st_10 >>> (((24 : Int32) - ((8 : Int32) * (l6_9 - l6_9 / (4 : Int32) * (4 : Int32)))) &&& 31)) &&& (255 : Int32)))))] rfl rfl hi_14 dX11_append_114 rfl ?_
            refine gq_aload_n hC 1 dX11_append_115 rfl rfl ?_
            refine gq_dup hC dX11_append_116 rfl ?_
            refine gq_get hC (kf := 6) 0 hin_X11 rfl rfl (by decide) hw_85 rfl dX11_append_117 ?_
            refine gq_iconst hC (1 : Int32) dX11_append_120 (by decide) ?_
            refine gq_iadd hC dX11_append_121 ?_
            refine gq_put1 hC (kf := 6) 0 [(h_t_, .inr (11, [.ref h_a, .ref h_fresh, .ref h_kept, .int v_keptMany, .int v_thrown_6, .ref h_buffer, .int (v_buffered_11 + (1 : Int32)), .int v_size, .int v_at, .int v_behind, .int v_kind, .int v_wrong, .int v_wrongAt, .int v_errorAt, .long v_number, .ref h_worthFrom, .ref h_cutsFrom, .ref h_endFrom, .ref h_changes, .ref h_waysFrom, .int v_toCut, .int v_toLeave, .ref h_costAt, .ref h_places, .ref h_isCut, .ref h_written, .int v_writtenMany])), (h_buffer, .inl (cI, 900, .inl (upd v_buffer_12 v_buffered_11.toNatClampNeg ((st_10 >>> (((24 : Int32) - ((8 : Int32) * (l6_9 - l6_9 / (4 : Int32) * (4 : Int32)))) &&& 31)) &&& (255 : Int32)))))] tyX11 tyX11_ok nmX11 hin_X11 rfl rfl (by decide) hw_85 rfl rfl rfl (Nat.le_of_ble_eq_true rfl) dX11_append_122 rfl ?_
            refine gq_iinc hC 7 (l6_9 + (1 : Int32)) [(6, .int (l6_9 + (1 : Int32))), (7, .int st_10), (0, .ref h_t_), (1, .int x1), (2, .int x2), (3, .int x3), (4, .int x4), (5, .int x5)] dX11_append_125 rfl rfl (by decide) rfl ?_
            refine gq_goto hC 34 dX11_append_128 (by decide) ?_
            refine gq_sub [(0, .ref h_t_), (1, .int x1), (2, .int x2), (3, .int x3), (4, .int x4), (5, .int x5), (6, .int (l6_9 + (1 : Int32)))] [2, 3, 4, 5, 6, 7, 0] rfl ?_
            exact ih (l6_9 + (1 : Int32)) (v_buffered_11 + (1 : Int32)) (upd v_buffer_12 v_buffered_11.toNatClampNeg ((st_10 >>> (((24 : Int32) - ((8 : Int32) * (l6_9 - l6_9 / (4 : Int32) * (4 : Int32)))) &&& 31)) &&& (255 : Int32))) hF
          intro l6_5 v_buffered_7 v_buffer_8 hw
          have hF : S_X11_append_34 x1 x2 x3 x4 x5 v_thrown_6 (wh (fun k q => S_X11_append_34 x1 x2 x3 x4 x5 v_thrown_6 k q.1 q.2.1 q.2.2) N) l6_5 v_buffered_7 v_buffer_8 = some (e_20, e_21) := hw
          unfold S_X11_append_34 at hF
          refine gq_iload hC 6 dX11_append_34 rfl ?_
          refine gq_bipush hC (20 : Int32) dX11_append_36 (by decide) ?_
          refine gq_icmp_ge hC 131 dX11_append_38 (by decide) (fun hc_19 => ?_) (fun hc_19 => ?_)
          · have hF := (if_pos hc_19).symm.trans hF
            refine gq_sub [(0, .ref h_t_)] [0] rfl ?_
            cases hF
            exact hx0
          · have hF := (if_neg hc_19).symm.trans hF
            refine gq_iload hC 6 dX11_append_41 rfl ?_
            refine gq_iconst hC (4 : Int32) dX11_append_43 (by decide) ?_
            refine gq_icmp_ge hC 51 dX11_append_44 (by decide) (fun hc_18 => ?_) (fun hc_18 => ?_)
            · have hF := (if_pos hc_18).symm.trans hF
              refine gq_iload hC 6 dX11_append_51 rfl ?_
              refine gq_bipush hC (8 : Int32) dX11_append_53 (by decide) ?_
              refine gq_icmp_ge hC 62 dX11_append_55 (by decide) (fun hc_17 => ?_) (fun hc_17 => ?_)
              · have hF := (if_pos hc_17).symm.trans hF
                refine gq_iload hC 6 dX11_append_62 rfl ?_
                refine gq_bipush hC (12 : Int32) dX11_append_64 (by decide) ?_
                refine gq_icmp_ge hC 73 dX11_append_66 (by decide) (fun hc_16 => ?_) (fun hc_16 => ?_)
                · have hF := (if_pos hc_16).symm.trans hF
                  refine gq_iload hC 6 dX11_append_73 rfl ?_
                  refine gq_bipush hC (16 : Int32) dX11_append_75 (by decide) ?_
                  refine gq_icmp_ge hC 85 dX11_append_77 (by decide) (fun hc_15 => ?_) (fun hc_15 => ?_)
                  · have hF := (if_pos hc_15).symm.trans hF
                    refine gq_iload hC 5 dX11_append_85 rfl ?_
                    exact jb87 l6_5 x5 v_buffered_7 v_buffer_8 hF
                  · have hF := (if_neg hc_15).symm.trans hF
                    refine gq_iload hC 4 dX11_append_80 rfl ?_
                    refine gq_goto hC 87 dX11_append_82 (by decide) ?_
                    exact jb87 l6_5 x4 v_buffered_7 v_buffer_8 hF
                · have hF := (if_neg hc_16).symm.trans hF
                  refine gq_iload_n hC 3 dX11_append_69 rfl rfl ?_
                  refine gq_goto hC 87 dX11_append_70 (by decide) ?_
                  exact jb87 l6_5 x3 v_buffered_7 v_buffer_8 hF
              · have hF := (if_neg hc_17).symm.trans hF
                refine gq_iload_n hC 2 dX11_append_58 rfl rfl ?_
                refine gq_goto hC 87 dX11_append_59 (by decide) ?_
                exact jb87 l6_5 x2 v_buffered_7 v_buffer_8 hF
            · have hF := (if_neg hc_18).symm.trans hF
              refine gq_iload_n hC 1 dX11_append_47 rfl rfl ?_
              refine gq_goto hC 87 dX11_append_48 (by decide) ?_
              exact jb87 l6_5 x1 v_buffered_7 v_buffer_8 hF
      refine gq_sub [(0, .ref h_t_), (1, .int x1), (2, .int x2), (3, .int x3), (4, .int x4), (5, .int x5), (6, .int (0 : Int32))] [1, 2, 3, 4, 5, 6, 0] rfl ?_
      obtain ⟨e_22, e_23, hw_, hF⟩ := ob2_e hF
      refine lp34 st_1 e_22 e_23 ?_ wF (0 : Int32) v_buffered_3 v_buffer_4 hw_
      refine gq_aload_n hC 0 dX11_append_131 rfl rfl ?_
      refine gq_get hC (kf := 6) 0 hin_X11 rfl rfl (by decide) hw_85 rfl dX11_append_132 ?_
      cases hF
      rw [hQ]
      exact gq_iret hC rfl dX11_append_135
    · have hF := (if_neg hc_24).symm.trans hF
      refine gq_iconst hC (0 : Int32) dX11_append_29 (by decide) ?_
      cases hF
      rw [hQ]
      exact gq_iret hC rfl dX11_append_30
  unfold F_X11_append at hF
  refine gq_aload_n hC 0 dX11_append_0 rfl rfl ?_
  refine gq_aload_n hC 0 dX11_append_1 rfl rfl ?_
  refine gq_get hC (kf := 6) 0 hin_X11 rfl rfl (by decide) hw_85 rfl dX11_append_2 ?_
  refine gq_bipush hC (20 : Int32) dX11_append_5 (by decide) ?_
  refine gq_iadd hC dX11_append_7 ?_
  refine gq_sipush hC (900 : Int32) dX11_append_8 (by decide) ?_
  refine gq_icmp_le hC 18 dX11_append_11 (by decide) (fun hc_25 => ?_) (fun hc_25 => ?_)
  · have hF := (if_pos hc_25).symm.trans hF
    refine gq_iconst hC (0 : Int32) dX11_append_18 (by decide) ?_
    exact jb19 (0 : Int32) v_thrown v_buffered v_buffer hF
  · have hF := (if_neg hc_25).symm.trans hF
    refine gq_iconst hC (1 : Int32) dX11_append_14 (by decide) ?_
    refine gq_goto hC 19 dX11_append_15 (by decide) ?_
    exact jb19 (1 : Int32) v_thrown v_buffered v_buffer hF
theorem hy_X11_undo : yX11_undo.cls = RX11 ∧ yX11_undo.cls ≠ "java/lang/invoke/MethodHandle" ∧ yX11_undo.cls ≠ "java/lang/invoke/VarHandle" ∧ (parseMethodDescriptor yX11_undo.desc).map (fun d => d.parameters.length) = some 0 := by decide +kernel
set_option maxRecDepth 20000 in
set_option maxHeartbeats 4000000 in
theorem k_X11_undo (l : Launch) (D : va_G) (cI cJ cZ cO : ClassId) (z : Nat → Nat)   (h_t_ : Nat) (h_a : Nat) (h_kept : Nat) (h_fresh : Nat) (h_buffer : Nat) (h_worthFrom : Nat) (h_cutsFrom : Nat) (h_endFrom : Nat) (h_changes : Nat) (h_waysFrom : Nat) (h_costAt : Nat) (h_places : Nat) (h_isCut : Nat) (h_written : Nat)  (v_keptMany : Int32) (v_thrown : Int32) (v_buffered : Int32) (v_size : Int32) (v_at : Int32) (v_behind : Int32) (v_kind : Int32) (v_wrong : Int32) (v_wrongAt : Int32) (v_errorAt : Int32) (v_number : Int64) (v_toCut : Int32) (v_toLeave : Int32) (v_writtenMany : Int32) (v_a : Nat → Int64) (v_kept : Nat → Int64) (r_ : Int32) (w_keptMany : Int32) (w_thrown : Int32) (w_a : Nat → Int64) (hF : F_X11_undo v_keptMany v_thrown v_a v_kept = some (r_, w_keptMany, w_thrown, w_a)) : Mi l yX11_undo wsX11_undo (rmD 0) D (gq_ty cI cJ cZ cO) z [.ref h_t_] [(h_t_, .inr (11, [.ref h_a, .ref h_fresh, .ref h_kept, .int v_keptMany, .int v_thrown, .ref h_buffer, .int v_buffered, .int v_size, .int v_at, .int v_behind, .int v_kind, .int v_wrong, .int v_wrongAt, .int v_errorAt, .long v_number, .ref h_worthFrom, .ref h_cutsFrom, .ref h_endFrom, .ref h_changes, .ref h_waysFrom, .int v_toCut, .int v_toLeave, .ref h_costAt, .ref h_places, .ref h_isCut, .ref h_written, .int v_writtenMany])), (h_a, .inl (cJ, 499, .inr (.inl v_a))), (h_kept, .inl (cJ, 3992, .inr (.inl v_kept)))] r_ [(h_t_, .inr (11, [.ref h_a, .ref h_fresh, .ref h_kept, .int w_keptMany, .int w_thrown, .ref h_buffer, .int v_buffered, .int v_size, .int v_at, .int v_behind, .int v_kind, .int v_wrong, .int v_wrongAt, .int v_errorAt, .long v_number, .ref h_worthFrom, .ref h_cutsFrom, .ref h_endFrom, .ref h_changes, .ref h_waysFrom, .int v_toCut, .int v_toLeave, .ref h_costAt, .ref h_places, .ref h_isCut, .ref h_written, .int v_writtenMany])), (h_a, .inl (cJ, 499, .inr (.inl w_a))), (h_kept, .inl (cJ, 3992, .inr (.inl v_kept)))] 0 0 := by
  refine Mi.of (cc := cX11_undo) (maxL := 2) (by decide) rfl (Nat.le_of_ble_eq_true rfl) ⟨Nat.le_refl 0, Nat.le_refl 0⟩ ?_
  intro p e s m args below meth c A hC ha
  have hin_X11 : ∀ w ∈ wsX110, w ∈ wsX11_undo := by decide +kernel
  have hw_9 : Cond.fieldLink RX11 9 (TX11 0).1 (TX11 0).2.1 (TX11 0).2.2.1 ∈ wsX11_undo := by decide +kernel
  have hw_16 : Cond.fieldLink RX11 16 (TX11 2).1 (TX11 2).2.1 (TX11 2).2.2.1 ∈ wsX11_undo := by decide +kernel
  have hw_79 : Cond.fieldLink RX11 79 (TX11 4).1 (TX11 4).2.1 (TX11 4).2.2.1 ∈ wsX11_undo := by decide +kernel
  have hw_82 : Cond.fieldLink RX11 82 (TX11 3).1 (TX11 3).2.1 (TX11 3).2.2.1 ∈ wsX11_undo := by decide +kernel
  obtain ⟨Q, hQ⟩ : ∃ Q, Q = gq_Qi below D A args s r_ [(h_t_, .inr (11, [.ref h_a, .ref h_fresh, .ref h_kept, .int w_keptMany, .int w_thrown, .ref h_buffer, .int v_buffered, .int v_size, .int v_at, .int v_behind, .int v_kind, .int v_wrong, .int v_wrongAt, .int v_errorAt, .long v_number, .ref h_worthFrom, .ref h_cutsFrom, .ref h_endFrom, .ref h_changes, .ref h_waysFrom, .int v_toCut, .int v_toLeave, .ref h_costAt, .ref h_places, .ref h_isCut, .ref h_written, .int v_writtenMany])), (h_a, .inl (cJ, 499, .inr (.inl w_a))), (h_kept, .inl (cJ, 3992, .inr (.inl v_kept)))] 0 0 := ⟨_, rfl⟩
  rw [← hQ]
  refine gq_loc [(0, .ref h_t_)] rfl ?_
  have jb13 : ∀ (st_1 : Int32) (v_keptMany_2 : Int32) (v_thrown_3 : Int32) (v_a_4 : Nat → Int64), F_X11_undo_b13 st_1 v_keptMany_2 v_thrown_3 v_a_4 v_kept = some (r_, w_keptMany, w_thrown, w_a) → Gx p l e (rmD 0) s m args below meth c D A 2 Q 0 0 13 [(0, .ref h_t_)] [.int st_1, .ref h_t_] [(h_t_, .inr (11, [.ref h_a, .ref h_fresh, .ref h_kept, .int v_keptMany_2, .int v_thrown_3, .ref h_buffer, .int v_buffered, .int v_size, .int v_at, .int v_behind, .int v_kind, .int v_wrong, .int v_wrongAt, .int v_errorAt, .long v_number, .ref h_worthFrom, .ref h_cutsFrom, .ref h_endFrom, .ref h_changes, .ref h_waysFrom, .int v_toCut, .int v_toLeave, .ref h_costAt, .ref h_places, .ref h_isCut, .ref h_written, .int v_writtenMany])), (h_a, .inl (cJ, 499, .inr (.inl v_a_4))), (h_kept, .inl (cJ, 3992, .inr (.inl v_kept)))] := by
    intro st_1 v_keptMany_2 v_thrown_3 v_a_4 hF
    unfold F_X11_undo_b13 at hF
    refine gq_put1 hC (kf := 4) 0 [(h_t_, .inr (11, [.ref h_a, .ref h_fresh, .ref h_kept, .int v_keptMany_2, .int st_1, .ref h_buffer, .int v_buffered, .int v_size, .int v_at, .int v_behind, .int v_kind, .int v_wrong, .int v_wrongAt, .int v_errorAt, .long v_number, .ref h_worthFrom, .ref h_cutsFrom, .ref h_endFrom, .ref h_changes, .ref h_waysFrom, .int v_toCut, .int v_toLeave, .ref h_costAt, .ref h_places, .ref h_isCut, .ref h_written, .int v_writtenMany])), (h_a, .inl (cJ, 499, .inr (.inl v_a_4))), (h_kept, .inl (cJ, 3992, .inr (.inl v_kept)))] tyX11 tyX11_ok nmX11 hin_X11 rfl rfl (by decide) hw_79 rfl rfl rfl (Nat.le_of_ble_eq_true rfl) dX11_undo_13 rfl ?_
    refine gq_aload_n hC 0 dX11_undo_16 rfl rfl ?_
    refine gq_get hC (kf := 4) 0 hin_X11 rfl rfl (by decide) hw_79 rfl dX11_undo_17 ?_
    refine gq_if_le hC 25 dX11_undo_20 (by decide) (fun hc_14 => ?_) (fun hc_14 => ?_)
    · have hF := (if_pos hc_14).symm.trans hF
      refine gq_aload_n hC 0 dX11_undo_25 rfl rfl ?_
      refine gq_dup hC dX11_undo_26 rfl ?_
      refine gq_get hC (kf := 3) 0 hin_X11 rfl rfl (by decide) hw_82 rfl dX11_undo_27 ?_
      refine gq_iconst hC (1 : Int32) dX11_undo_30 (by decide) ?_
      refine gq_isub hC dX11_undo_31 ?_
      refine gq_put1 hC (kf := 3) 0 [(h_t_, .inr (11, [.ref h_a, .ref h_fresh, .ref h_kept, .int (v_keptMany_2 - (1 : Int32)), .int st_1, .ref h_buffer, .int v_buffered, .int v_size, .int v_at, .int v_behind, .int v_kind, .int v_wrong, .int v_wrongAt, .int v_errorAt, .long v_number, .ref h_worthFrom, .ref h_cutsFrom, .ref h_endFrom, .ref h_changes, .ref h_waysFrom, .int v_toCut, .int v_toLeave, .ref h_costAt, .ref h_places, .ref h_isCut, .ref h_written, .int v_writtenMany])), (h_a, .inl (cJ, 499, .inr (.inl v_a_4))), (h_kept, .inl (cJ, 3992, .inr (.inl v_kept)))] tyX11 tyX11_ok nmX11 hin_X11 rfl rfl (by decide) hw_82 rfl rfl rfl (Nat.le_of_ble_eq_true rfl) dX11_undo_32 rfl ?_
      refine gq_iconst hC (0 : Int32) dX11_undo_35 (by decide) ?_
      refine gq_istore_n hC [(1, .int (0 : Int32)), (0, .ref h_t_)] dX11_undo_36 rfl (by decide) rfl ?_
      have lp37 : ∀ (v_keptMany_6 : Int32) (v_thrown_7 : Int32), ∀ (e_12 : (Nat → Int64)), Gx p l e (rmD 0) s m args below meth c D A 2 Q 0 0 71 [(0, .ref h_t_)] [] [(h_t_, .inr (11, [.ref h_a, .ref h_fresh, .ref h_kept, .int v_keptMany_6, .int v_thrown_7, .ref h_buffer, .int v_buffered, .int v_size, .int v_at, .int v_behind, .int v_kind, .int v_wrong, .int v_wrongAt, .int v_errorAt, .long v_number, .ref h_worthFrom, .ref h_cutsFrom, .ref h_endFrom, .ref h_changes, .ref h_waysFrom, .int v_toCut, .int v_toLeave, .ref h_costAt, .ref h_places, .ref h_isCut, .ref h_written, .int v_writtenMany])), (h_a, .inl (cJ, 499, .inr (.inl e_12))), (h_kept, .inl (cJ, 3992, .inr (.inl v_kept)))] → ∀ (N : Nat) (l1_5 : Int32) (v_a_8 : Nat → Int64), wh (fun k q => S_X11_undo_37 v_keptMany_6 v_thrown_7 v_kept k q.1 q.2) N (l1_5, v_a_8) = some e_12 → Gx p l e (rmD 0) s m args below meth c D A 2 Q 0 0 37 [(0, .ref h_t_), (1, .int l1_5)] [] [(h_t_, .inr (11, [.ref h_a, .ref h_fresh, .ref h_kept, .int v_keptMany_6, .int v_thrown_7, .ref h_buffer, .int v_buffered, .int v_size, .int v_at, .int v_behind, .int v_kind, .int v_wrong, .int v_wrongAt, .int v_errorAt, .long v_number, .ref h_worthFrom, .ref h_cutsFrom, .ref h_endFrom, .ref h_changes, .ref h_waysFrom, .int v_toCut, .int v_toLeave, .ref h_costAt, .ref h_places, .ref h_isCut, .ref h_written, .int v_writtenMany])), (h_a, .inl (cJ, 499, .inr (.inl v_a_8))), (h_kept, .inl (cJ, 3992, .inr (.inl v_kept)))] := by
        intro v_keptMany_6 v_thrown_7 e_12 hx0 N
        induction N with
        | zero => intro l1_5 v_a_8 hw; exact absurd hw (wh_0 _ _ _)
        | succ N ih =>
          intro l1_5 v_a_8 hw
          have hF : S_X11_undo_37 v_keptMany_6 v_thrown_7 v_kept (wh (fun k q => S_X11_undo_37 v_keptMany_6 v_thrown_7 v_kept k q.1 q.2) N) l1_5 v_a_8 = some e_12 := hw
          unfold S_X11_undo_37 at hF
          refine gq_iload_n hC 1 dX11_undo_37 rfl rfl ?_
          refine gq_sipush hC (499 : Int32) dX11_undo_38 (by decide) ?_
          refine gq_icmp_ge hC 71 dX11_undo_41 (by decide) (fun hc_11 => ?_) (fun hc_11 => ?_)
          · have hF := (if_pos hc_11).symm.trans hF
            refine gq_sub [(0, .ref h_t_)] [0] rfl ?_
            cases hF
            exact hx0
          · have hF := (if_neg hc_11).symm.trans hF
            refine gq_aload_n hC 0 dX11_undo_44 rfl rfl ?_
            refine gq_get hC (kf := 0) 0 hin_X11 rfl rfl (by decide) hw_9 rfl dX11_undo_45 ?_
            refine gq_iload_n hC 1 dX11_undo_48 rfl rfl ?_
            refine gq_aload_n hC 0 dX11_undo_49 rfl rfl ?_
            refine gq_get hC (kf := 2) 0 hin_X11 rfl rfl (by decide) hw_16 rfl dX11_undo_50 ?_
            refine gq_sipush hC (499 : Int32) dX11_undo_53 (by decide) ?_
            refine gq_aload_n hC 0 dX11_undo_56 rfl rfl ?_
            refine gq_get hC (kf := 3) 0 hin_X11 rfl rfl (by decide) hw_82 rfl dX11_undo_57 ?_
            refine gq_imul hC dX11_undo_60 ?_
            refine gq_iload_n hC 1 dX11_undo_61 rfl rfl ?_
            refine gq_iadd hC dX11_undo_62 ?_
            obtain ⟨hi_9, hF⟩ := gi_e hF
            refine gq_lald hC 2 1 rfl rfl hi_9 dX11_undo_63 ?_
            obtain ⟨hi_10, hF⟩ := gi_e hF
            refine gq_last hC 1 1 [(h_t_, .inr (11, [.ref h_a, .ref h_fresh, .ref h_kept, .int v_keptMany_6, .int v_thrown_7, .ref h_buffer, .int v_buffered, .int v_size, .int v_at, .int v_behind, .int v_kind, .int v_wrong, .int v_wrongAt, .int v_errorAt, .long v_number, .ref h_worthFrom, .ref h_cutsFrom, .ref h_endFrom, .ref h_changes, .ref h_waysFrom, .int v_toCut, .int v_toLeave, .ref h_costAt, .ref h_places, .ref h_isCut, .ref h_written, .int v_writtenMany])), (h_a, .inl (cJ, 499, .inr (.inl (vp_updL v_a_8 l1_5.toNatClampNeg (v_kept (((499 : Int32) * v_keptMany_6) + l1_5).toNatClampNeg))))), (h_kept, .inl (cJ, 3992, .inr (.inl v_kept)))] rfl rfl hi_10 dX11_undo_64 rfl ?_
            refine gq_iinc hC 1 (l1_5 + (1 : Int32)) [(1, .int (l1_5 + (1 : Int32))), (0, .ref h_t_)] dX11_undo_65 rfl rfl (by decide) rfl ?_
            refine gq_goto hC 37 dX11_undo_68 (by decide) ?_
            refine gq_sub [(0, .ref h_t_), (1, .int (l1_5 + (1 : Int32)))] [1, 0] rfl ?_
            exact ih (l1_5 + (1 : Int32)) (vp_updL v_a_8 l1_5.toNatClampNeg (v_kept (((499 : Int32) * v_keptMany_6) + l1_5).toNatClampNeg)) hF
      refine gq_sub [(0, .ref h_t_), (1, .int (0 : Int32))] [1, 0] rfl ?_
      obtain ⟨e_13, hw_, hF⟩ := ob1_e hF
      refine lp37 (v_keptMany_2 - (1 : Int32)) st_1 e_13 ?_ wF (0 : Int32) v_a_4 hw_
      refine gq_aload_n hC 0 dX11_undo_71 rfl rfl ?_
      refine gq_get hC (kf := 3) 0 hin_X11 rfl rfl (by decide) hw_82 rfl dX11_undo_72 ?_
      cases hF
      rw [hQ]
      exact gq_iret hC rfl dX11_undo_75
    · have hF := (if_neg hc_14).symm.trans hF
      refine gq_iconst hC (0 : Int32) dX11_undo_23 (by decide) ?_
      cases hF
      rw [hQ]
      exact gq_iret hC rfl dX11_undo_24
  unfold F_X11_undo at hF
  refine gq_aload_n hC 0 dX11_undo_0 rfl rfl ?_
  refine gq_aload_n hC 0 dX11_undo_1 rfl rfl ?_
  refine gq_get hC (kf := 3) 0 hin_X11 rfl rfl (by decide) hw_82 rfl dX11_undo_2 ?_
  refine gq_if_ne hC 12 dX11_undo_5 (by decide) (fun hc_15 => ?_) (fun hc_15 => ?_)
  · have hF := (if_neg hc_15).symm.trans hF
    refine gq_iconst hC (0 : Int32) dX11_undo_12 (by decide) ?_
    exact jb13 (0 : Int32) v_keptMany v_thrown v_a hF
  · have hF := (if_pos hc_15).symm.trans hF
    refine gq_iconst hC (1 : Int32) dX11_undo_8 (by decide) ?_
    refine gq_goto hC 13 dX11_undo_9 (by decide) ?_
    exact jb13 (1 : Int32) v_keptMany v_thrown v_a hF
theorem hy_X11_chapters : yX11_chapters.cls = RX11 ∧ yX11_chapters.cls ≠ "java/lang/invoke/MethodHandle" ∧ yX11_chapters.cls ≠ "java/lang/invoke/VarHandle" ∧ (parseMethodDescriptor yX11_chapters.desc).map (fun d => d.parameters.length) = some 0 := by decide +kernel
set_option maxRecDepth 20000 in
set_option maxHeartbeats 4000000 in
theorem k_X11_chapters (l : Launch) (D : va_G) (cI cJ cZ cO : ClassId) (z : Nat → Nat)   (h_t_ : Nat) (h_a : Nat) (h_worthFrom : Nat) (h_cutsFrom : Nat) (h_endFrom : Nat) (h_changes : Nat) (h_waysFrom : Nat) (h_fresh : Nat) (h_kept : Nat) (h_buffer : Nat) (h_costAt : Nat) (h_places : Nat) (h_isCut : Nat) (h_written : Nat)  (v_keptMany : Int32) (v_thrown : Int32) (v_buffered : Int32) (v_size : Int32) (v_at : Int32) (v_behind : Int32) (v_kind : Int32) (v_wrong : Int32) (v_wrongAt : Int32) (v_errorAt : Int32) (v_number : Int64) (v_toCut : Int32) (v_toLeave : Int32) (v_writtenMany : Int32) (v_a : Nat → Int64) (v_worthFrom : Nat → Int32) (v_cutsFrom : Nat → Int32) (v_endFrom : Nat → Int32) (v_changes : Nat → Int32) (v_waysFrom : Nat → Int64) (r_ : Int32) (w_thrown : Int32) (w_worthFrom : Nat → Int32) (w_cutsFrom : Nat → Int32) (w_endFrom : Nat → Int32) (w_changes : Nat → Int32) (w_waysFrom : Nat → Int64) (hF : F_X11_chapters v_thrown v_toCut v_toLeave v_a v_worthFrom v_cutsFrom v_endFrom v_changes v_waysFrom = some (r_, w_thrown, w_worthFrom, w_cutsFrom, w_endFrom, w_changes, w_waysFrom)) : Mi l yX11_chapters wsX11_chapters (rmD 6) D (gq_ty cI cJ cZ cO) z [.ref h_t_] [(h_t_, .inr (11, [.ref h_a, .ref h_fresh, .ref h_kept, .int v_keptMany, .int v_thrown, .ref h_buffer, .int v_buffered, .int v_size, .int v_at, .int v_behind, .int v_kind, .int v_wrong, .int v_wrongAt, .int v_errorAt, .long v_number, .ref h_worthFrom, .ref h_cutsFrom, .ref h_endFrom, .ref h_changes, .ref h_waysFrom, .int v_toCut, .int v_toLeave, .ref h_costAt, .ref h_places, .ref h_isCut, .ref h_written, .int v_writtenMany])), (h_a, .inl (cJ, 499, .inr (.inl v_a))), (h_worthFrom, .inl (cI, 33, .inl v_worthFrom)), (h_cutsFrom, .inl (cI, 33, .inl v_cutsFrom)), (h_endFrom, .inl (cI, 33, .inl v_endFrom)), (h_changes, .inl (cI, 32, .inl v_changes)), (h_waysFrom, .inl (cJ, 33, .inr (.inl v_waysFrom)))] r_ [(h_t_, .inr (11, [.ref h_a, .ref h_fresh, .ref h_kept, .int v_keptMany, .int w_thrown, .ref h_buffer, .int v_buffered, .int v_size, .int v_at, .int v_behind, .int v_kind, .int v_wrong, .int v_wrongAt, .int v_errorAt, .long v_number, .ref h_worthFrom, .ref h_cutsFrom, .ref h_endFrom, .ref h_changes, .ref h_waysFrom, .int v_toCut, .int v_toLeave, .ref h_costAt, .ref h_places, .ref h_isCut, .ref h_written, .int v_writtenMany])), (h_a, .inl (cJ, 499, .inr (.inl v_a))), (h_worthFrom, .inl (cI, 33, .inl w_worthFrom)), (h_cutsFrom, .inl (cI, 33, .inl w_cutsFrom)), (h_endFrom, .inl (cI, 33, .inl w_endFrom)), (h_changes, .inl (cI, 32, .inl w_changes)), (h_waysFrom, .inl (cJ, 33, .inr (.inl w_waysFrom)))] 0 0 := by
  refine Mi.of (cc := cX11_chapters) (maxL := 1) (by decide) rfl (Nat.le_of_ble_eq_true rfl) ⟨Nat.le_refl 0, Nat.le_refl 0⟩ ?_
  intro p e s m args below meth c A hC ha
  have hin_X11 : ∀ w ∈ wsX110, w ∈ wsX11_chapters := by decide +kernel
  have hw_30 : Cond.fieldLink RX11 30 (TX11 16).1 (TX11 16).2.1 (TX11 16).2.2.1 ∈ wsX11_chapters := by decide +kernel
  have hw_79 : Cond.fieldLink RX11 79 (TX11 4).1 (TX11 4).2.1 (TX11 4).2.2.1 ∈ wsX11_chapters := by decide +kernel
  obtain ⟨Q, hQ⟩ : ∃ Q, Q = gq_Qi below D A args s r_ [(h_t_, .inr (11, [.ref h_a, .ref h_fresh, .ref h_kept, .int v_keptMany, .int w_thrown, .ref h_buffer, .int v_buffered, .int v_size, .int v_at, .int v_behind, .int v_kind, .int v_wrong, .int v_wrongAt, .int v_errorAt, .long v_number, .ref h_worthFrom, .ref h_cutsFrom, .ref h_endFrom, .ref h_changes, .ref h_waysFrom, .int v_toCut, .int v_toLeave, .ref h_costAt, .ref h_places, .ref h_isCut, .ref h_written, .int v_writtenMany])), (h_a, .inl (cJ, 499, .inr (.inl v_a))), (h_worthFrom, .inl (cI, 33, .inl w_worthFrom)), (h_cutsFrom, .inl (cI, 33, .inl w_cutsFrom)), (h_endFrom, .inl (cI, 33, .inl w_endFrom)), (h_changes, .inl (cI, 32, .inl w_changes)), (h_waysFrom, .inl (cJ, 33, .inr (.inl w_waysFrom)))] 0 0 := ⟨_, rfl⟩
  rw [← hQ]
  refine gq_loc [(0, .ref h_t_)] rfl ?_
  unfold F_X11_chapters at hF
  refine gq_aload_n hC 0 dX11_chapters_0 rfl rfl ?_
  refine gq_iconst hC (0 : Int32) dX11_chapters_1 (by decide) ?_
  refine gq_put1 hC (kf := 4) 0 [(h_t_, .inr (11, [.ref h_a, .ref h_fresh, .ref h_kept, .int v_keptMany, .int (0 : Int32), .ref h_buffer, .int v_buffered, .int v_size, .int v_at, .int v_behind, .int v_kind, .int v_wrong, .int v_wrongAt, .int v_errorAt, .long v_number, .ref h_worthFrom, .ref h_cutsFrom, .ref h_endFrom, .ref h_changes, .ref h_waysFrom, .int v_toCut, .int v_toLeave, .ref h_costAt, .ref h_places, .ref h_isCut, .ref h_written, .int v_writtenMany])), (h_a, .inl (cJ, 499, .inr (.inl v_a))), (h_worthFrom, .inl (cI, 33, .inl v_worthFrom)), (h_cutsFrom, .inl (cI, 33, .inl v_cutsFrom)), (h_endFrom, .inl (cI, 33, .inl v_endFrom)), (h_changes, .inl (cI, 32, .inl v_changes)), (h_waysFrom, .inl (cJ, 33, .inr (.inl v_waysFrom)))] tyX11 tyX11_ok nmX11 hin_X11 rfl rfl (by decide) hw_79 rfl rfl rfl (Nat.le_of_ble_eq_true rfl) dX11_chapters_2 rfl ?_
  refine gq_aload_n hC 0 dX11_chapters_5 rfl rfl ?_
  obtain ⟨r_1, v_worthFrom_2, v_cutsFrom_3, v_endFrom_4, v_changes_5, v_waysFrom_6, hc_, hF⟩ := ob6_e hF
  refine gq_callVi hC [0, 1, 2, 3, 4, 5, 6] [(h_t_, .inr (11, [.ref h_a, .ref h_fresh, .ref h_kept, .int v_keptMany, .int (0 : Int32), .ref h_buffer, .int v_buffered, .int v_size, .int v_at, .int v_behind, .int v_kind, .int v_wrong, .int v_wrongAt, .int v_errorAt, .long v_number, .ref h_worthFrom, .ref h_cutsFrom, .ref h_endFrom, .ref h_changes, .ref h_waysFrom, .int v_toCut, .int v_toLeave, .ref h_costAt, .ref h_places, .ref h_isCut, .ref h_written, .int v_writtenMany])), (h_a, .inl (cJ, 499, .inr (.inl v_a))), (h_worthFrom, .inl (cI, 33, .inl v_worthFrom_2)), (h_cutsFrom, .inl (cI, 33, .inl v_cutsFrom_3)), (h_endFrom, .inl (cI, 33, .inl v_endFrom_4)), (h_changes, .inl (cI, 32, .inl v_changes_5)), (h_waysFrom, .inl (cJ, 33, .inr (.inl v_waysFrom_6)))] [] [] (k_X11_hasBest l D cI cJ cZ cO z h_t_ h_a h_worthFrom h_cutsFrom h_endFrom h_changes h_waysFrom h_fresh h_kept h_buffer h_costAt h_places h_isCut h_written v_keptMany (0 : Int32) v_buffered v_size v_at v_behind v_kind v_wrong v_wrongAt v_errorAt v_number v_toCut v_toLeave v_writtenMany v_a v_worthFrom v_cutsFrom v_endFrom v_changes v_waysFrom r_1 v_worthFrom_2 v_cutsFrom_3 v_endFrom_4 v_changes_5 v_waysFrom_6 hc_) gX11_chapters_X11_hasBest rfl ⟨rfl, rfl⟩ hy_X11_hasBest ⟨Nat.le_of_ble_eq_true rfl, Nat.le_of_ble_eq_true rfl⟩ rfl rfl rfl (q0 := 0) rfl rfl rfl (Nat.le_of_ble_eq_true rfl) rfl dX11_chapters_6 rfl rfl ?_
  refine gq_if_eq hC 23 dX11_chapters_9 (by decide) (fun hc_8 => ?_) (fun hc_8 => ?_)
  · have hF := (if_pos hc_8).symm.trans hF
    refine gq_iconst hC (-1 : Int32) dX11_chapters_23 (by decide) ?_
    cases hF
    rw [hQ]
    exact gq_iret hC rfl dX11_chapters_24
  · have hF := (if_neg hc_8).symm.trans hF
    refine gq_iconst hC (1 : Int32) dX11_chapters_12 (by decide) ?_
    refine gq_aload_n hC 0 dX11_chapters_13 rfl rfl ?_
    refine gq_get hC (kf := 16) 0 hin_X11 rfl rfl (by decide) hw_30 rfl dX11_chapters_14 ?_
    refine gq_iconst hC (0 : Int32) dX11_chapters_17 (by decide) ?_
    obtain ⟨hi_7, hF⟩ := gi_e hF
    refine gq_iald hC 3 0 rfl rfl hi_7 dX11_chapters_18 ?_
    refine gq_iadd hC dX11_chapters_19 ?_
    refine gq_goto hC 24 dX11_chapters_20 (by decide) ?_
    cases hF
    rw [hQ]
    exact gq_iret hC rfl dX11_chapters_24
theorem hy_X11_worth : yX11_worth.cls = RX11 ∧ yX11_worth.cls ≠ "java/lang/invoke/MethodHandle" ∧ yX11_worth.cls ≠ "java/lang/invoke/VarHandle" ∧ (parseMethodDescriptor yX11_worth.desc).map (fun d => d.parameters.length) = some 0 := by decide +kernel
set_option maxRecDepth 20000 in
set_option maxHeartbeats 4000000 in
theorem k_X11_worth (l : Launch) (D : va_G) (cI cJ cZ cO : ClassId) (z : Nat → Nat)   (h_t_ : Nat) (h_a : Nat) (h_worthFrom : Nat) (h_cutsFrom : Nat) (h_endFrom : Nat) (h_changes : Nat) (h_waysFrom : Nat) (h_fresh : Nat) (h_kept : Nat) (h_buffer : Nat) (h_costAt : Nat) (h_places : Nat) (h_isCut : Nat) (h_written : Nat)  (v_keptMany : Int32) (v_thrown : Int32) (v_buffered : Int32) (v_size : Int32) (v_at : Int32) (v_behind : Int32) (v_kind : Int32) (v_wrong : Int32) (v_wrongAt : Int32) (v_errorAt : Int32) (v_number : Int64) (v_toCut : Int32) (v_toLeave : Int32) (v_writtenMany : Int32) (v_a : Nat → Int64) (v_worthFrom : Nat → Int32) (v_cutsFrom : Nat → Int32) (v_endFrom : Nat → Int32) (v_changes : Nat → Int32) (v_waysFrom : Nat → Int64) (r_ : Int32) (w_thrown : Int32) (w_worthFrom : Nat → Int32) (w_cutsFrom : Nat → Int32) (w_endFrom : Nat → Int32) (w_changes : Nat → Int32) (w_waysFrom : Nat → Int64) (hF : F_X11_worth v_thrown v_toCut v_toLeave v_a v_worthFrom v_cutsFrom v_endFrom v_changes v_waysFrom = some (r_, w_thrown, w_worthFrom, w_cutsFrom, w_endFrom, w_changes, w_waysFrom)) : Mi l yX11_worth wsX11_worth (rmD 6) D (gq_ty cI cJ cZ cO) z [.ref h_t_] [(h_t_, .inr (11, [.ref h_a, .ref h_fresh, .ref h_kept, .int v_keptMany, .int v_thrown, .ref h_buffer, .int v_buffered, .int v_size, .int v_at, .int v_behind, .int v_kind, .int v_wrong, .int v_wrongAt, .int v_errorAt, .long v_number, .ref h_worthFrom, .ref h_cutsFrom, .ref h_endFrom, .ref h_changes, .ref h_waysFrom, .int v_toCut, .int v_toLeave, .ref h_costAt, .ref h_places, .ref h_isCut, .ref h_written, .int v_writtenMany])), (h_a, .inl (cJ, 499, .inr (.inl v_a))), (h_worthFrom, .inl (cI, 33, .inl v_worthFrom)), (h_cutsFrom, .inl (cI, 33, .inl v_cutsFrom)), (h_endFrom, .inl (cI, 33, .inl v_endFrom)), (h_changes, .inl (cI, 32, .inl v_changes)), (h_waysFrom, .inl (cJ, 33, .inr (.inl v_waysFrom)))] r_ [(h_t_, .inr (11, [.ref h_a, .ref h_fresh, .ref h_kept, .int v_keptMany, .int w_thrown, .ref h_buffer, .int v_buffered, .int v_size, .int v_at, .int v_behind, .int v_kind, .int v_wrong, .int v_wrongAt, .int v_errorAt, .long v_number, .ref h_worthFrom, .ref h_cutsFrom, .ref h_endFrom, .ref h_changes, .ref h_waysFrom, .int v_toCut, .int v_toLeave, .ref h_costAt, .ref h_places, .ref h_isCut, .ref h_written, .int v_writtenMany])), (h_a, .inl (cJ, 499, .inr (.inl v_a))), (h_worthFrom, .inl (cI, 33, .inl w_worthFrom)), (h_cutsFrom, .inl (cI, 33, .inl w_cutsFrom)), (h_endFrom, .inl (cI, 33, .inl w_endFrom)), (h_changes, .inl (cI, 32, .inl w_changes)), (h_waysFrom, .inl (cJ, 33, .inr (.inl w_waysFrom)))] 0 0 := by
  refine Mi.of (cc := cX11_worth) (maxL := 1) (by decide) rfl (Nat.le_of_ble_eq_true rfl) ⟨Nat.le_refl 0, Nat.le_refl 0⟩ ?_
  intro p e s m args below meth c A hC ha
  have hin_X11 : ∀ w ∈ wsX110, w ∈ wsX11_worth := by decide +kernel
  have hw_27 : Cond.fieldLink RX11 27 (TX11 15).1 (TX11 15).2.1 (TX11 15).2.2.1 ∈ wsX11_worth := by decide +kernel
  have hw_79 : Cond.fieldLink RX11 79 (TX11 4).1 (TX11 4).2.1 (TX11 4).2.2.1 ∈ wsX11_worth := by decide +kernel
  obtain ⟨Q, hQ⟩ : ∃ Q, Q = gq_Qi below D A args s r_ [(h_t_, .inr (11, [.ref h_a, .ref h_fresh, .ref h_kept, .int v_keptMany, .int w_thrown, .ref h_buffer, .int v_buffered, .int v_size, .int v_at, .int v_behind, .int v_kind, .int v_wrong, .int v_wrongAt, .int v_errorAt, .long v_number, .ref h_worthFrom, .ref h_cutsFrom, .ref h_endFrom, .ref h_changes, .ref h_waysFrom, .int v_toCut, .int v_toLeave, .ref h_costAt, .ref h_places, .ref h_isCut, .ref h_written, .int v_writtenMany])), (h_a, .inl (cJ, 499, .inr (.inl v_a))), (h_worthFrom, .inl (cI, 33, .inl w_worthFrom)), (h_cutsFrom, .inl (cI, 33, .inl w_cutsFrom)), (h_endFrom, .inl (cI, 33, .inl w_endFrom)), (h_changes, .inl (cI, 32, .inl w_changes)), (h_waysFrom, .inl (cJ, 33, .inr (.inl w_waysFrom)))] 0 0 := ⟨_, rfl⟩
  rw [← hQ]
  refine gq_loc [(0, .ref h_t_)] rfl ?_
  have jb13 : ∀ (st_1 : Int32) (v_thrown_2 : Int32) (v_worthFrom_3 : Nat → Int32) (v_cutsFrom_4 : Nat → Int32) (v_endFrom_5 : Nat → Int32) (v_changes_6 : Nat → Int32) (v_waysFrom_7 : Nat → Int64), F_X11_worth_b13 st_1 v_thrown_2 v_worthFrom_3 v_cutsFrom_4 v_endFrom_5 v_changes_6 v_waysFrom_7 = some (r_, w_thrown, w_worthFrom, w_cutsFrom, w_endFrom, w_changes, w_waysFrom) → Gx p l e (rmD 6) s m args below meth c D A 1 Q 0 0 13 [(0, .ref h_t_)] [.int st_1, .ref h_t_] [(h_t_, .inr (11, [.ref h_a, .ref h_fresh, .ref h_kept, .int v_keptMany, .int v_thrown_2, .ref h_buffer, .int v_buffered, .int v_size, .int v_at, .int v_behind, .int v_kind, .int v_wrong, .int v_wrongAt, .int v_errorAt, .long v_number, .ref h_worthFrom, .ref h_cutsFrom, .ref h_endFrom, .ref h_changes, .ref h_waysFrom, .int v_toCut, .int v_toLeave, .ref h_costAt, .ref h_places, .ref h_isCut, .ref h_written, .int v_writtenMany])), (h_a, .inl (cJ, 499, .inr (.inl v_a))), (h_worthFrom, .inl (cI, 33, .inl v_worthFrom_3)), (h_cutsFrom, .inl (cI, 33, .inl v_cutsFrom_4)), (h_endFrom, .inl (cI, 33, .inl v_endFrom_5)), (h_changes, .inl (cI, 32, .inl v_changes_6)), (h_waysFrom, .inl (cJ, 33, .inr (.inl v_waysFrom_7)))] := by
    intro st_1 v_thrown_2 v_worthFrom_3 v_cutsFrom_4 v_endFrom_5 v_changes_6 v_waysFrom_7 hF
    unfold F_X11_worth_b13 at hF
    refine gq_put1 hC (kf := 4) 0 [(h_t_, .inr (11, [.ref h_a, .ref h_fresh, .ref h_kept, .int v_keptMany, .int st_1, .ref h_buffer, .int v_buffered, .int v_size, .int v_at, .int v_behind, .int v_kind, .int v_wrong, .int v_wrongAt, .int v_errorAt, .long v_number, .ref h_worthFrom, .ref h_cutsFrom, .ref h_endFrom, .ref h_changes, .ref h_waysFrom, .int v_toCut, .int v_toLeave, .ref h_costAt, .ref h_places, .ref h_isCut, .ref h_written, .int v_writtenMany])), (h_a, .inl (cJ, 499, .inr (.inl v_a))), (h_worthFrom, .inl (cI, 33, .inl v_worthFrom_3)), (h_cutsFrom, .inl (cI, 33, .inl v_cutsFrom_4)), (h_endFrom, .inl (cI, 33, .inl v_endFrom_5)), (h_changes, .inl (cI, 32, .inl v_changes_6)), (h_waysFrom, .inl (cJ, 33, .inr (.inl v_waysFrom_7)))] tyX11 tyX11_ok nmX11 hin_X11 rfl rfl (by decide) hw_79 rfl rfl rfl (Nat.le_of_ble_eq_true rfl) dX11_worth_13 rfl ?_
    refine gq_aload_n hC 0 dX11_worth_16 rfl rfl ?_
    refine gq_get hC (kf := 4) 0 hin_X11 rfl rfl (by decide) hw_79 rfl dX11_worth_17 ?_
    refine gq_if_le hC 27 dX11_worth_20 (by decide) (fun hc_9 => ?_) (fun hc_9 => ?_)
    · have hF := (if_pos hc_9).symm.trans hF
      refine gq_aload_n hC 0 dX11_worth_27 rfl rfl ?_
      refine gq_get hC (kf := 15) 0 hin_X11 rfl rfl (by decide) hw_27 rfl dX11_worth_28 ?_
      refine gq_iconst hC (0 : Int32) dX11_worth_31 (by decide) ?_
      obtain ⟨hi_8, hF⟩ := gi_e hF
      refine gq_iald hC 2 0 rfl rfl hi_8 dX11_worth_32 ?_
      cases hF
      rw [hQ]
      exact gq_iret hC rfl dX11_worth_33
    · have hF := (if_neg hc_9).symm.trans hF
      refine gq_iconst hC (0 : Int32) dX11_worth_23 (by decide) ?_
      refine gq_goto hC 33 dX11_worth_24 (by decide) ?_
      cases hF
      rw [hQ]
      exact gq_iret hC rfl dX11_worth_33
  unfold F_X11_worth at hF
  refine gq_aload_n hC 0 dX11_worth_0 rfl rfl ?_
  refine gq_aload_n hC 0 dX11_worth_1 rfl rfl ?_
  obtain ⟨r_10, v_worthFrom_11, v_cutsFrom_12, v_endFrom_13, v_changes_14, v_waysFrom_15, hc_, hF⟩ := ob6_e hF
  refine gq_callVi hC [0, 1, 2, 3, 4, 5, 6] [(h_t_, .inr (11, [.ref h_a, .ref h_fresh, .ref h_kept, .int v_keptMany, .int v_thrown, .ref h_buffer, .int v_buffered, .int v_size, .int v_at, .int v_behind, .int v_kind, .int v_wrong, .int v_wrongAt, .int v_errorAt, .long v_number, .ref h_worthFrom, .ref h_cutsFrom, .ref h_endFrom, .ref h_changes, .ref h_waysFrom, .int v_toCut, .int v_toLeave, .ref h_costAt, .ref h_places, .ref h_isCut, .ref h_written, .int v_writtenMany])), (h_a, .inl (cJ, 499, .inr (.inl v_a))), (h_worthFrom, .inl (cI, 33, .inl v_worthFrom_11)), (h_cutsFrom, .inl (cI, 33, .inl v_cutsFrom_12)), (h_endFrom, .inl (cI, 33, .inl v_endFrom_13)), (h_changes, .inl (cI, 32, .inl v_changes_14)), (h_waysFrom, .inl (cJ, 33, .inr (.inl v_waysFrom_15)))] [] [.ref h_t_] (k_X11_hasBest l D cI cJ cZ cO z h_t_ h_a h_worthFrom h_cutsFrom h_endFrom h_changes h_waysFrom h_fresh h_kept h_buffer h_costAt h_places h_isCut h_written v_keptMany v_thrown v_buffered v_size v_at v_behind v_kind v_wrong v_wrongAt v_errorAt v_number v_toCut v_toLeave v_writtenMany v_a v_worthFrom v_cutsFrom v_endFrom v_changes v_waysFrom r_10 v_worthFrom_11 v_cutsFrom_12 v_endFrom_13 v_changes_14 v_waysFrom_15 hc_) gX11_worth_X11_hasBest rfl ⟨rfl, rfl⟩ hy_X11_hasBest ⟨Nat.le_of_ble_eq_true rfl, Nat.le_of_ble_eq_true rfl⟩ rfl rfl rfl (q0 := 0) rfl rfl rfl (Nat.le_of_ble_eq_true rfl) rfl dX11_worth_2 rfl rfl ?_
  refine gq_if_eq hC 12 dX11_worth_5 (by decide) (fun hc_16 => ?_) (fun hc_16 => ?_)
  · have hF := (if_pos hc_16).symm.trans hF
    refine gq_iconst hC (1 : Int32) dX11_worth_12 (by decide) ?_
    exact jb13 (1 : Int32) v_thrown v_worthFrom_11 v_cutsFrom_12 v_endFrom_13 v_changes_14 v_waysFrom_15 hF
  · have hF := (if_neg hc_16).symm.trans hF
    refine gq_iconst hC (0 : Int32) dX11_worth_8 (by decide) ?_
    refine gq_goto hC 13 dX11_worth_9 (by decide) ?_
    exact jb13 (0 : Int32) v_thrown v_worthFrom_11 v_cutsFrom_12 v_endFrom_13 v_changes_14 v_waysFrom_15 hF
theorem hy_X11_noChapter : yX11_noChapter.cls = RX11 ∧ yX11_noChapter.cls ≠ "java/lang/invoke/MethodHandle" ∧ yX11_noChapter.cls ≠ "java/lang/invoke/VarHandle" ∧ (parseMethodDescriptor yX11_noChapter.desc).map (fun d => d.parameters.length) = some 1 := by decide +kernel
set_option maxRecDepth 20000 in
set_option maxHeartbeats 4000000 in
theorem k_X11_noChapter (l : Launch) (D : va_G) (cI cJ cZ cO : ClassId) (z : Nat → Nat)   (h_t_ : Nat) (h_a : Nat) (h_worthFrom : Nat) (h_cutsFrom : Nat) (h_endFrom : Nat) (h_changes : Nat) (h_waysFrom : Nat) (h_fresh : Nat) (h_kept : Nat) (h_buffer : Nat) (h_costAt : Nat) (h_places : Nat) (h_isCut : Nat) (h_written : Nat) (x1 : Int32) (v_keptMany : Int32) (v_thrown : Int32) (v_buffered : Int32) (v_size : Int32) (v_at : Int32) (v_behind : Int32) (v_kind : Int32) (v_wrong : Int32) (v_wrongAt : Int32) (v_errorAt : Int32) (v_number : Int64) (v_toCut : Int32) (v_toLeave : Int32) (v_writtenMany : Int32) (v_a : Nat → Int64) (v_worthFrom : Nat → Int32) (v_cutsFrom : Nat → Int32) (v_endFrom : Nat → Int32) (v_changes : Nat → Int32) (v_waysFrom : Nat → Int64) (r_ : Int32) (w_worthFrom : Nat → Int32) (w_cutsFrom : Nat → Int32) (w_endFrom : Nat → Int32) (w_changes : Nat → Int32) (w_waysFrom : Nat → Int64) (hF : F_X11_noChapter x1 v_toCut v_toLeave v_a v_worthFrom v_cutsFrom v_endFrom v_changes v_waysFrom = some (r_, w_worthFrom, w_cutsFrom, w_endFrom, w_changes, w_waysFrom)) : Mi l yX11_noChapter wsX11_noChapter (rmD 6) D (gq_ty cI cJ cZ cO) z [.ref h_t_, .int x1] [(h_t_, .inr (11, [.ref h_a, .ref h_fresh, .ref h_kept, .int v_keptMany, .int v_thrown, .ref h_buffer, .int v_buffered, .int v_size, .int v_at, .int v_behind, .int v_kind, .int v_wrong, .int v_wrongAt, .int v_errorAt, .long v_number, .ref h_worthFrom, .ref h_cutsFrom, .ref h_endFrom, .ref h_changes, .ref h_waysFrom, .int v_toCut, .int v_toLeave, .ref h_costAt, .ref h_places, .ref h_isCut, .ref h_written, .int v_writtenMany])), (h_a, .inl (cJ, 499, .inr (.inl v_a))), (h_worthFrom, .inl (cI, 33, .inl v_worthFrom)), (h_cutsFrom, .inl (cI, 33, .inl v_cutsFrom)), (h_endFrom, .inl (cI, 33, .inl v_endFrom)), (h_changes, .inl (cI, 32, .inl v_changes)), (h_waysFrom, .inl (cJ, 33, .inr (.inl v_waysFrom)))] r_ [(h_t_, .inr (11, [.ref h_a, .ref h_fresh, .ref h_kept, .int v_keptMany, .int v_thrown, .ref h_buffer, .int v_buffered, .int v_size, .int v_at, .int v_behind, .int v_kind, .int v_wrong, .int v_wrongAt, .int v_errorAt, .long v_number, .ref h_worthFrom, .ref h_cutsFrom, .ref h_endFrom, .ref h_changes, .ref h_waysFrom, .int v_toCut, .int v_toLeave, .ref h_costAt, .ref h_places, .ref h_isCut, .ref h_written, .int v_writtenMany])), (h_a, .inl (cJ, 499, .inr (.inl v_a))), (h_worthFrom, .inl (cI, 33, .inl w_worthFrom)), (h_cutsFrom, .inl (cI, 33, .inl w_cutsFrom)), (h_endFrom, .inl (cI, 33, .inl w_endFrom)), (h_changes, .inl (cI, 32, .inl w_changes)), (h_waysFrom, .inl (cJ, 33, .inr (.inl w_waysFrom)))] 0 0 := by
  refine Mi.of (cc := cX11_noChapter) (maxL := 2) (by decide) rfl (Nat.le_of_ble_eq_true rfl) ⟨Nat.le_refl 0, Nat.le_refl 0⟩ ?_
  intro p e s m args below meth c A hC ha
  have hin_X11 : ∀ w ∈ wsX110, w ∈ wsX11_noChapter := by decide +kernel
  have hw_30 : Cond.fieldLink RX11 30 (TX11 16).1 (TX11 16).2.1 (TX11 16).2.2.1 ∈ wsX11_noChapter := by decide +kernel
  obtain ⟨Q, hQ⟩ : ∃ Q, Q = gq_Qi below D A args s r_ [(h_t_, .inr (11, [.ref h_a, .ref h_fresh, .ref h_kept, .int v_keptMany, .int v_thrown, .ref h_buffer, .int v_buffered, .int v_size, .int v_at, .int v_behind, .int v_kind, .int v_wrong, .int v_wrongAt, .int v_errorAt, .long v_number, .ref h_worthFrom, .ref h_cutsFrom, .ref h_endFrom, .ref h_changes, .ref h_waysFrom, .int v_toCut, .int v_toLeave, .ref h_costAt, .ref h_places, .ref h_isCut, .ref h_written, .int v_writtenMany])), (h_a, .inl (cJ, 499, .inr (.inl v_a))), (h_worthFrom, .inl (cI, 33, .inl w_worthFrom)), (h_cutsFrom, .inl (cI, 33, .inl w_cutsFrom)), (h_endFrom, .inl (cI, 33, .inl w_endFrom)), (h_changes, .inl (cI, 32, .inl w_changes)), (h_waysFrom, .inl (cJ, 33, .inr (.inl w_waysFrom)))] 0 0 := ⟨_, rfl⟩
  rw [← hQ]
  refine gq_loc [(0, .ref h_t_), (1, .int x1)] rfl ?_
  unfold F_X11_noChapter at hF
  refine gq_aload_n hC 0 dX11_noChapter_0 rfl rfl ?_
  obtain ⟨r_1, v_worthFrom_2, v_cutsFrom_3, v_endFrom_4, v_changes_5, v_waysFrom_6, hc_, hF⟩ := ob6_e hF
  refine gq_callVi hC [0, 1, 2, 3, 4, 5, 6] [(h_t_, .inr (11, [.ref h_a, .ref h_fresh, .ref h_kept, .int v_keptMany, .int v_thrown, .ref h_buffer, .int v_buffered, .int v_size, .int v_at, .int v_behind, .int v_kind, .int v_wrong, .int v_wrongAt, .int v_errorAt, .long v_number, .ref h_worthFrom, .ref h_cutsFrom, .ref h_endFrom, .ref h_changes, .ref h_waysFrom, .int v_toCut, .int v_toLeave, .ref h_costAt, .ref h_places, .ref h_isCut, .ref h_written, .int v_writtenMany])), (h_a, .inl (cJ, 499, .inr (.inl v_a))), (h_worthFrom, .inl (cI, 33, .inl v_worthFrom_2)), (h_cutsFrom, .inl (cI, 33, .inl v_cutsFrom_3)), (h_endFrom, .inl (cI, 33, .inl v_endFrom_4)), (h_changes, .inl (cI, 32, .inl v_changes_5)), (h_waysFrom, .inl (cJ, 33, .inr (.inl v_waysFrom_6)))] [] [] (k_X11_hasBest l D cI cJ cZ cO z h_t_ h_a h_worthFrom h_cutsFrom h_endFrom h_changes h_waysFrom h_fresh h_kept h_buffer h_costAt h_places h_isCut h_written v_keptMany v_thrown v_buffered v_size v_at v_behind v_kind v_wrong v_wrongAt v_errorAt v_number v_toCut v_toLeave v_writtenMany v_a v_worthFrom v_cutsFrom v_endFrom v_changes v_waysFrom r_1 v_worthFrom_2 v_cutsFrom_3 v_endFrom_4 v_changes_5 v_waysFrom_6 hc_) gX11_noChapter_X11_hasBest rfl ⟨rfl, rfl⟩ hy_X11_hasBest ⟨Nat.le_of_ble_eq_true rfl, Nat.le_of_ble_eq_true rfl⟩ rfl rfl rfl (q0 := 0) rfl rfl rfl (Nat.le_of_ble_eq_true rfl) rfl dX11_noChapter_1 rfl rfl ?_
  refine gq_if_ne hC 11 dX11_noChapter_4 (by decide) (fun hc_10 => ?_) (fun hc_10 => ?_)
  · have hF := (if_neg hc_10).symm.trans hF
    refine gq_iload_n hC 1 dX11_noChapter_11 rfl rfl ?_
    refine gq_i2l hC dX11_noChapter_12 ?_
    refine gq_lconst hC (0 : Int64) dX11_noChapter_13 (by decide) ?_
    refine gq_aload_n hC 0 dX11_noChapter_14 rfl rfl ?_
    refine gq_get hC (kf := 16) 0 hin_X11 rfl rfl (by decide) hw_30 rfl dX11_noChapter_15 ?_
    refine gq_iconst hC (0 : Int32) dX11_noChapter_18 (by decide) ?_
    obtain ⟨hi_7, hF⟩ := gi_e hF
    refine gq_iald hC 3 0 rfl rfl hi_7 dX11_noChapter_19 ?_
    refine gq_i2l hC dX11_noChapter_20 ?_
    obtain ⟨r_8, hc_, hF⟩ := ob1_e hF
    refine gq_callSi hC [] [(h_t_, .inr (11, [.ref h_a, .ref h_fresh, .ref h_kept, .int v_keptMany, .int v_thrown, .ref h_buffer, .int v_buffered, .int v_size, .int v_at, .int v_behind, .int v_kind, .int v_wrong, .int v_wrongAt, .int v_errorAt, .long v_number, .ref h_worthFrom, .ref h_cutsFrom, .ref h_endFrom, .ref h_changes, .ref h_waysFrom, .int v_toCut, .int v_toLeave, .ref h_costAt, .ref h_places, .ref h_isCut, .ref h_written, .int v_writtenMany])), (h_a, .inl (cJ, 499, .inr (.inl v_a))), (h_worthFrom, .inl (cI, 33, .inl v_worthFrom_2)), (h_cutsFrom, .inl (cI, 33, .inl v_cutsFrom_3)), (h_endFrom, .inl (cI, 33, .inl v_endFrom_4)), (h_changes, .inl (cI, 32, .inl v_changes_5)), (h_waysFrom, .inl (cJ, 33, .inr (.inl v_waysFrom_6)))] [.long (x1.toInt64), .long (0 : Int64), .long ((v_cutsFrom_3 (0 : Int32).toNatClampNeg).toInt64)] [] (k_X11_isIn l D cI cJ cZ cO z  (x1.toInt64) (0 : Int64) ((v_cutsFrom_3 (0 : Int32).toNatClampNeg).toInt64) r_8 hc_) gX11_noChapter_X11_isIn rfl ⟨rfl, rfl⟩ hy_X11_isIn rfl ⟨Nat.le_of_ble_eq_true rfl, Nat.le_of_ble_eq_true rfl⟩ rfl rfl rfl (Nat.le_of_ble_eq_true rfl) rfl dX11_noChapter_21 rfl rfl ?_
    refine gq_if_eq hC 31 dX11_noChapter_24 (by decide) (fun hc_9 => ?_) (fun hc_9 => ?_)
    · have hF := (if_pos hc_9).symm.trans hF
      refine gq_iconst hC (2 : Int32) dX11_noChapter_31 (by decide) ?_
      cases hF
      rw [hQ]
      exact gq_iret hC rfl dX11_noChapter_32
    · have hF := (if_neg hc_9).symm.trans hF
      refine gq_iconst hC (0 : Int32) dX11_noChapter_27 (by decide) ?_
      refine gq_goto hC 32 dX11_noChapter_28 (by decide) ?_
      cases hF
      rw [hQ]
      exact gq_iret hC rfl dX11_noChapter_32
  · have hF := (if_pos hc_10).symm.trans hF
    refine gq_iconst hC (1 : Int32) dX11_noChapter_7 (by decide) ?_
    refine gq_goto hC 32 dX11_noChapter_8 (by decide) ?_
    cases hF
    rw [hQ]
    exact gq_iret hC rfl dX11_noChapter_32
theorem hy_X11_different : yX11_different.cls = RX11 ∧ yX11_different.cls ≠ "java/lang/invoke/MethodHandle" ∧ yX11_different.cls ≠ "java/lang/invoke/VarHandle" ∧ (parseMethodDescriptor yX11_different.desc).map (fun d => d.parameters.length) = some 2 := by decide +kernel
set_option maxRecDepth 20000 in
set_option maxHeartbeats 4000000 in
theorem k_X11_different (l : Launch) (D : va_G) (cI cJ cZ cO : ClassId) (z : Nat → Nat)   (h_t_ : Nat) (h_a : Nat) (h_fresh : Nat) (h_kept : Nat) (h_buffer : Nat) (h_worthFrom : Nat) (h_cutsFrom : Nat) (h_endFrom : Nat) (h_changes : Nat) (h_waysFrom : Nat) (h_costAt : Nat) (h_places : Nat) (h_isCut : Nat) (h_written : Nat) (x1 : Int32) (x2 : Int32) (v_keptMany : Int32) (v_thrown : Int32) (v_buffered : Int32) (v_size : Int32) (v_at : Int32) (v_behind : Int32) (v_kind : Int32) (v_wrong : Int32) (v_wrongAt : Int32) (v_errorAt : Int32) (v_number : Int64) (v_toCut : Int32) (v_toLeave : Int32) (v_writtenMany : Int32) (v_a : Nat → Int64) (r_ : Int32) (hF : F_X11_different x1 x2 v_a = some r_) : Mi l yX11_different wsX11_different (rmD 2) D (gq_ty cI cJ cZ cO) z [.ref h_t_, .int x1, .int x2] [(h_t_, .inr (11, [.ref h_a, .ref h_fresh, .ref h_kept, .int v_keptMany, .int v_thrown, .ref h_buffer, .int v_buffered, .int v_size, .int v_at, .int v_behind, .int v_kind, .int v_wrong, .int v_wrongAt, .int v_errorAt, .long v_number, .ref h_worthFrom, .ref h_cutsFrom, .ref h_endFrom, .ref h_changes, .ref h_waysFrom, .int v_toCut, .int v_toLeave, .ref h_costAt, .ref h_places, .ref h_isCut, .ref h_written, .int v_writtenMany])), (h_a, .inl (cJ, 499, .inr (.inl v_a)))] r_ [(h_t_, .inr (11, [.ref h_a, .ref h_fresh, .ref h_kept, .int v_keptMany, .int v_thrown, .ref h_buffer, .int v_buffered, .int v_size, .int v_at, .int v_behind, .int v_kind, .int v_wrong, .int v_wrongAt, .int v_errorAt, .long v_number, .ref h_worthFrom, .ref h_cutsFrom, .ref h_endFrom, .ref h_changes, .ref h_waysFrom, .int v_toCut, .int v_toLeave, .ref h_costAt, .ref h_places, .ref h_isCut, .ref h_written, .int v_writtenMany])), (h_a, .inl (cJ, 499, .inr (.inl v_a)))] 0 0 := by
  refine Mi.of (cc := cX11_different) (maxL := 5) (by decide) rfl (Nat.le_of_ble_eq_true rfl) ⟨Nat.le_refl 0, Nat.le_refl 0⟩ ?_
  intro p e s m args below meth c A hC ha
  have hin_X11 : ∀ w ∈ wsX110, w ∈ wsX11_different := by decide +kernel
  have hw_9 : Cond.fieldLink RX11 9 (TX11 0).1 (TX11 0).2.1 (TX11 0).2.2.1 ∈ wsX11_different := by decide +kernel
  obtain ⟨Q, hQ⟩ : ∃ Q, Q = gq_Qi below D A args s r_ [(h_t_, .inr (11, [.ref h_a, .ref h_fresh, .ref h_kept, .int v_keptMany, .int v_thrown, .ref h_buffer, .int v_buffered, .int v_size, .int v_at, .int v_behind, .int v_kind, .int v_wrong, .int v_wrongAt, .int v_errorAt, .long v_number, .ref h_worthFrom, .ref h_cutsFrom, .ref h_endFrom, .ref h_changes, .ref h_waysFrom, .int v_toCut, .int v_toLeave, .ref h_costAt, .ref h_places, .ref h_isCut, .ref h_written, .int v_writtenMany])), (h_a, .inl (cJ, 499, .inr (.inl v_a)))] 0 0 := ⟨_, rfl⟩
  rw [← hQ]
  refine gq_loc [(0, .ref h_t_), (1, .int x1), (2, .int x2)] rfl ?_
  unfold F_X11_different at hF
  refine gq_iconst hC (0 : Int32) dX11_different_0 (by decide) ?_
  refine gq_istore_n hC [(3, .int (0 : Int32)), (0, .ref h_t_), (1, .int x1), (2, .int x2)] dX11_different_1 rfl (by decide) rfl ?_
  refine gq_iconst hC (0 : Int32) dX11_different_2 (by decide) ?_
  refine gq_istore hC [(4, .int (0 : Int32)), (3, .int (0 : Int32)), (0, .ref h_t_), (1, .int x1), (2, .int x2)] dX11_different_3 (by decide) rfl ?_
  have lp5 : ∀ (e_7 : Int32), Gx p l e (rmD 2) s m args below meth c D A 5 Q 0 0 44 [(3, .int e_7)] [] [(h_t_, .inr (11, [.ref h_a, .ref h_fresh, .ref h_kept, .int v_keptMany, .int v_thrown, .ref h_buffer, .int v_buffered, .int v_size, .int v_at, .int v_behind, .int v_kind, .int v_wrong, .int v_wrongAt, .int v_errorAt, .long v_number, .ref h_worthFrom, .ref h_cutsFrom, .ref h_endFrom, .ref h_changes, .ref h_waysFrom, .int v_toCut, .int v_toLeave, .ref h_costAt, .ref h_places, .ref h_isCut, .ref h_written, .int v_writtenMany])), (h_a, .inl (cJ, 499, .inr (.inl v_a)))] → ∀ (N : Nat) (l3_1 : Int32) (l4_2 : Int32), wh (fun k q => S_X11_different_5 x1 x2 v_a k q.1 q.2) N (l3_1, l4_2) = some e_7 → Gx p l e (rmD 2) s m args below meth c D A 5 Q 0 0 5 [(0, .ref h_t_), (1, .int x1), (2, .int x2), (3, .int l3_1), (4, .int l4_2)] [] [(h_t_, .inr (11, [.ref h_a, .ref h_fresh, .ref h_kept, .int v_keptMany, .int v_thrown, .ref h_buffer, .int v_buffered, .int v_size, .int v_at, .int v_behind, .int v_kind, .int v_wrong, .int v_wrongAt, .int v_errorAt, .long v_number, .ref h_worthFrom, .ref h_cutsFrom, .ref h_endFrom, .ref h_changes, .ref h_waysFrom, .int v_toCut, .int v_toLeave, .ref h_costAt, .ref h_places, .ref h_isCut, .ref h_written, .int v_writtenMany])), (h_a, .inl (cJ, 499, .inr (.inl v_a)))] := by
    intro e_7 hx0 N
    induction N with
    | zero => intro l3_1 l4_2 hw; exact absurd hw (wh_0 _ _ _)
    | succ N ih =>
      intro l3_1 l4_2 hw
      have hF : S_X11_different_5 x1 x2 v_a (wh (fun k q => S_X11_different_5 x1 x2 v_a k q.1 q.2) N) l3_1 l4_2 = some e_7 := hw
      unfold S_X11_different_5 at hF
      refine gq_iload hC 4 dX11_different_5 rfl ?_
      refine gq_i2l hC dX11_different_7 ?_
      refine gq_aload_n hC 0 dX11_different_8 rfl rfl ?_
      refine gq_get hC (kf := 0) 0 hin_X11 rfl rfl (by decide) hw_9 rfl dX11_different_9 ?_
      refine gq_bipush hC (7 : Int32) dX11_different_12 (by decide) ?_
      obtain ⟨hi_3, hF⟩ := gi_e hF
      refine gq_lald hC 1 1 rfl rfl hi_3 dX11_different_14 ?_
      refine gq_lcmp hC dX11_different_15 ?_
      refine gq_if_ge hC 44 dX11_different_16 (by decide) (fun hc_6 => ?_) (fun hc_6 => ?_)
      · have hF := (if_pos hc_6).symm.trans hF
        refine gq_sub [(3, .int l3_1)] [3] rfl ?_
        cases hF
        exact hx0
      · have hF := (if_neg hc_6).symm.trans hF
        refine gq_iload_n hC 3 dX11_different_19 rfl rfl ?_
        refine gq_aload_n hC 0 dX11_different_20 rfl rfl ?_
        refine gq_iload hC 4 dX11_different_21 rfl ?_
        refine gq_iload_n hC 1 dX11_different_23 rfl rfl ?_
        refine gq_iload_n hC 2 dX11_different_24 rfl rfl ?_
        obtain ⟨r_4, hc_, hF⟩ := ob1_e hF
        refine gq_callVi hC [0, 1] [(h_t_, .inr (11, [.ref h_a, .ref h_fresh, .ref h_kept, .int v_keptMany, .int v_thrown, .ref h_buffer, .int v_buffered, .int v_size, .int v_at, .int v_behind, .int v_kind, .int v_wrong, .int v_wrongAt, .int v_errorAt, .long v_number, .ref h_worthFrom, .ref h_cutsFrom, .ref h_endFrom, .ref h_changes, .ref h_waysFrom, .int v_toCut, .int v_toLeave, .ref h_costAt, .ref h_places, .ref h_isCut, .ref h_written, .int v_writtenMany])), (h_a, .inl (cJ, 499, .inr (.inl v_a)))] [.int l4_2, .int x1, .int x2] [.int l3_1] (k_X11_usesIn l D cI cJ cZ cO z h_t_ h_a h_fresh h_kept h_buffer h_worthFrom h_cutsFrom h_endFrom h_changes h_waysFrom h_costAt h_places h_isCut h_written l4_2 x1 x2 v_keptMany v_thrown v_buffered v_size v_at v_behind v_kind v_wrong v_wrongAt v_errorAt v_number v_toCut v_toLeave v_writtenMany v_a r_4 hc_) gX11_different_X11_usesIn rfl ⟨rfl, rfl⟩ hy_X11_usesIn ⟨Nat.le_of_ble_eq_true rfl, Nat.le_of_ble_eq_true rfl⟩ rfl rfl rfl (q0 := 0) rfl rfl rfl (Nat.le_of_ble_eq_true rfl) rfl dX11_different_25 rfl rfl ?_
        refine gq_if_le hC 35 dX11_different_28 (by decide) (fun hc_5 => ?_) (fun hc_5 => ?_)
        · have hF := (if_pos hc_5).symm.trans hF
          refine gq_iconst hC (0 : Int32) dX11_different_35 (by decide) ?_
          refine gq_iadd hC dX11_different_36 ?_
          refine gq_istore_n hC [(3, .int (l3_1 + (0 : Int32))), (0, .ref h_t_), (1, .int x1), (2, .int x2), (4, .int l4_2)] dX11_different_37 rfl (by decide) rfl ?_
          refine gq_iinc hC 4 (l4_2 + (1 : Int32)) [(4, .int (l4_2 + (1 : Int32))), (3, .int (l3_1 + (0 : Int32))), (0, .ref h_t_), (1, .int x1), (2, .int x2)] dX11_different_38 rfl rfl (by decide) rfl ?_
          refine gq_goto hC 5 dX11_different_41 (by decide) ?_
          refine gq_sub [(0, .ref h_t_), (1, .int x1), (2, .int x2), (3, .int (l3_1 + (0 : Int32))), (4, .int (l4_2 + (1 : Int32)))] [2, 3, 4, 1, 0] rfl ?_
          exact ih (l3_1 + (0 : Int32)) (l4_2 + (1 : Int32)) hF
        · have hF := (if_neg hc_5).symm.trans hF
          refine gq_iconst hC (1 : Int32) dX11_different_31 (by decide) ?_
          refine gq_goto hC 36 dX11_different_32 (by decide) ?_
          refine gq_iadd hC dX11_different_36 ?_
          refine gq_istore_n hC [(3, .int (l3_1 + (1 : Int32))), (0, .ref h_t_), (1, .int x1), (2, .int x2), (4, .int l4_2)] dX11_different_37 rfl (by decide) rfl ?_
          refine gq_iinc hC 4 (l4_2 + (1 : Int32)) [(4, .int (l4_2 + (1 : Int32))), (3, .int (l3_1 + (1 : Int32))), (0, .ref h_t_), (1, .int x1), (2, .int x2)] dX11_different_38 rfl rfl (by decide) rfl ?_
          refine gq_goto hC 5 dX11_different_41 (by decide) ?_
          refine gq_sub [(0, .ref h_t_), (1, .int x1), (2, .int x2), (3, .int (l3_1 + (1 : Int32))), (4, .int (l4_2 + (1 : Int32)))] [2, 3, 4, 1, 0] rfl ?_
          exact ih (l3_1 + (1 : Int32)) (l4_2 + (1 : Int32)) hF
  refine gq_sub [(0, .ref h_t_), (1, .int x1), (2, .int x2), (3, .int (0 : Int32)), (4, .int (0 : Int32))] [2, 3, 4, 1, 0] rfl ?_
  obtain ⟨e_8, hw_, hF⟩ := ob1_e hF
  refine lp5  e_8 ?_ wF (0 : Int32) (0 : Int32) hw_
  refine gq_iload_n hC 0 dX11_different_44 rfl rfl ?_
  cases hF
  rw [hQ]
  exact gq_iret hC rfl dX11_different_45
theorem hy_X11_chapter : yX11_chapter.cls = RX11 ∧ yX11_chapter.cls ≠ "java/lang/invoke/MethodHandle" ∧ yX11_chapter.cls ≠ "java/lang/invoke/VarHandle" ∧ (parseMethodDescriptor yX11_chapter.desc).map (fun d => d.parameters.length) = some 2 := by decide +kernel
set_option maxRecDepth 20000 in
set_option maxHeartbeats 4000000 in
theorem k_X11_chapter (l : Launch) (D : va_G) (cI cJ cZ cO : ClassId) (z : Nat → Nat)   (h_t_ : Nat) (h_a : Nat) (h_worthFrom : Nat) (h_cutsFrom : Nat) (h_endFrom : Nat) (h_changes : Nat) (h_waysFrom : Nat) (h_costAt : Nat) (h_places : Nat) (h_isCut : Nat) (h_fresh : Nat) (h_kept : Nat) (h_buffer : Nat) (h_written : Nat) (x1 : Int32) (x2 : Int32) (v_keptMany : Int32) (v_thrown : Int32) (v_buffered : Int32) (v_size : Int32) (v_at : Int32) (v_behind : Int32) (v_kind : Int32) (v_wrong : Int32) (v_wrongAt : Int32) (v_errorAt : Int32) (v_number : Int64) (v_toCut : Int32) (v_toLeave : Int32) (v_writtenMany : Int32) (v_a : Nat → Int64) (v_worthFrom : Nat → Int32) (v_cutsFrom : Nat → Int32) (v_endFrom : Nat → Int32) (v_changes : Nat → Int32) (v_waysFrom : Nat → Int64) (v_costAt : Nat → Int32) (v_places : Nat → Int32) (v_isCut : Nat → Int32) (r_ : Int32) (w_thrown : Int32) (w_worthFrom : Nat → Int32) (w_cutsFrom : Nat → Int32) (w_endFrom : Nat → Int32) (w_changes : Nat → Int32) (w_waysFrom : Nat → Int64) (w_costAt : Nat → Int32) (w_places : Nat → Int32) (w_isCut : Nat → Int32) (hF : F_X11_chapter x1 x2 v_thrown v_toCut v_toLeave v_a v_worthFrom v_cutsFrom v_endFrom v_changes v_waysFrom v_costAt v_places v_isCut = some (r_, w_thrown, w_worthFrom, w_cutsFrom, w_endFrom, w_changes, w_waysFrom, w_costAt, w_places, w_isCut)) : Mi l yX11_chapter wsX11_chapter (rmD 9) D (gq_ty cI cJ cZ cO) z [.ref h_t_, .int x1, .int x2] [(h_t_, .inr (11, [.ref h_a, .ref h_fresh, .ref h_kept, .int v_keptMany, .int v_thrown, .ref h_buffer, .int v_buffered, .int v_size, .int v_at, .int v_behind, .int v_kind, .int v_wrong, .int v_wrongAt, .int v_errorAt, .long v_number, .ref h_worthFrom, .ref h_cutsFrom, .ref h_endFrom, .ref h_changes, .ref h_waysFrom, .int v_toCut, .int v_toLeave, .ref h_costAt, .ref h_places, .ref h_isCut, .ref h_written, .int v_writtenMany])), (h_a, .inl (cJ, 499, .inr (.inl v_a))), (h_worthFrom, .inl (cI, 33, .inl v_worthFrom)), (h_cutsFrom, .inl (cI, 33, .inl v_cutsFrom)), (h_endFrom, .inl (cI, 33, .inl v_endFrom)), (h_changes, .inl (cI, 32, .inl v_changes)), (h_waysFrom, .inl (cJ, 33, .inr (.inl v_waysFrom))), (h_costAt, .inl (cI, 160, .inl v_costAt)), (h_places, .inl (cI, 5, .inl v_places)), (h_isCut, .inl (cZ, 32, .inl v_isCut))] r_ [(h_t_, .inr (11, [.ref h_a, .ref h_fresh, .ref h_kept, .int v_keptMany, .int w_thrown, .ref h_buffer, .int v_buffered, .int v_size, .int v_at, .int v_behind, .int v_kind, .int v_wrong, .int v_wrongAt, .int v_errorAt, .long v_number, .ref h_worthFrom, .ref h_cutsFrom, .ref h_endFrom, .ref h_changes, .ref h_waysFrom, .int v_toCut, .int v_toLeave, .ref h_costAt, .ref h_places, .ref h_isCut, .ref h_written, .int v_writtenMany])), (h_a, .inl (cJ, 499, .inr (.inl v_a))), (h_worthFrom, .inl (cI, 33, .inl w_worthFrom)), (h_cutsFrom, .inl (cI, 33, .inl w_cutsFrom)), (h_endFrom, .inl (cI, 33, .inl w_endFrom)), (h_changes, .inl (cI, 32, .inl w_changes)), (h_waysFrom, .inl (cJ, 33, .inr (.inl w_waysFrom))), (h_costAt, .inl (cI, 160, .inl w_costAt)), (h_places, .inl (cI, 5, .inl w_places)), (h_isCut, .inl (cZ, 32, .inl w_isCut))] 0 0 := by
  refine Mi.of (cc := cX11_chapter) (maxL := 5) (by decide) rfl (Nat.le_of_ble_eq_true rfl) ⟨Nat.le_refl 0, Nat.le_refl 0⟩ ?_
  intro p e s m args below meth c A hC ha
  have hin_X11 : ∀ w ∈ wsX110, w ∈ wsX11_chapter := by decide +kernel
  have hw_33 : Cond.fieldLink RX11 33 (TX11 17).1 (TX11 17).2.1 (TX11 17).2.2.1 ∈ wsX11_chapter := by decide +kernel
  have hw_79 : Cond.fieldLink RX11 79 (TX11 4).1 (TX11 4).2.1 (TX11 4).2.2.1 ∈ wsX11_chapter := by decide +kernel
  obtain ⟨Q, hQ⟩ : ∃ Q, Q = gq_Qi below D A args s r_ [(h_t_, .inr (11, [.ref h_a, .ref h_fresh, .ref h_kept, .int v_keptMany, .int w_thrown, .ref h_buffer, .int v_buffered, .int v_size, .int v_at, .int v_behind, .int v_kind, .int v_wrong, .int v_wrongAt, .int v_errorAt, .long v_number, .ref h_worthFrom, .ref h_cutsFrom, .ref h_endFrom, .ref h_changes, .ref h_waysFrom, .int v_toCut, .int v_toLeave, .ref h_costAt, .ref h_places, .ref h_isCut, .ref h_written, .int v_writtenMany])), (h_a, .inl (cJ, 499, .inr (.inl v_a))), (h_worthFrom, .inl (cI, 33, .inl w_worthFrom)), (h_cutsFrom, .inl (cI, 33, .inl w_cutsFrom)), (h_endFrom, .inl (cI, 33, .inl w_endFrom)), (h_changes, .inl (cI, 32, .inl w_changes)), (h_waysFrom, .inl (cJ, 33, .inr (.inl w_waysFrom))), (h_costAt, .inl (cI, 160, .inl w_costAt)), (h_places, .inl (cI, 5, .inl w_places)), (h_isCut, .inl (cZ, 32, .inl w_isCut))] 0 0 := ⟨_, rfl⟩
  rw [← hQ]
  refine gq_loc [(0, .ref h_t_), (1, .int x1), (2, .int x2)] rfl ?_
  have jb33 : ∀ (v_thrown_1 : Int32) (v_worthFrom_2 : Nat → Int32) (v_cutsFrom_3 : Nat → Int32) (v_endFrom_4 : Nat → Int32) (v_changes_5 : Nat → Int32) (v_waysFrom_6 : Nat → Int64) (v_costAt_7 : Nat → Int32) (v_places_8 : Nat → Int32) (v_isCut_9 : Nat → Int32), F_X11_chapter_b33 x1 x2 v_thrown_1 v_toCut v_toLeave v_a v_worthFrom_2 v_cutsFrom_3 v_endFrom_4 v_changes_5 v_waysFrom_6 v_costAt_7 v_places_8 v_isCut_9 = some (r_, w_thrown, w_worthFrom, w_cutsFrom, w_endFrom, w_changes, w_waysFrom, w_costAt, w_places, w_isCut) → Gx p l e (rmD 9) s m args below meth c D A 5 Q 0 0 33 [(0, .ref h_t_), (1, .int x1), (2, .int x2)] [] [(h_t_, .inr (11, [.ref h_a, .ref h_fresh, .ref h_kept, .int v_keptMany, .int v_thrown_1, .ref h_buffer, .int v_buffered, .int v_size, .int v_at, .int v_behind, .int v_kind, .int v_wrong, .int v_wrongAt, .int v_errorAt, .long v_number, .ref h_worthFrom, .ref h_cutsFrom, .ref h_endFrom, .ref h_changes, .ref h_waysFrom, .int v_toCut, .int v_toLeave, .ref h_costAt, .ref h_places, .ref h_isCut, .ref h_written, .int v_writtenMany])), (h_a, .inl (cJ, 499, .inr (.inl v_a))), (h_worthFrom, .inl (cI, 33, .inl v_worthFrom_2)), (h_cutsFrom, .inl (cI, 33, .inl v_cutsFrom_3)), (h_endFrom, .inl (cI, 33, .inl v_endFrom_4)), (h_changes, .inl (cI, 32, .inl v_changes_5)), (h_waysFrom, .inl (cJ, 33, .inr (.inl v_waysFrom_6))), (h_costAt, .inl (cI, 160, .inl v_costAt_7)), (h_places, .inl (cI, 5, .inl v_places_8)), (h_isCut, .inl (cZ, 32, .inl v_isCut_9))] := by
    intro v_thrown_1 v_worthFrom_2 v_cutsFrom_3 v_endFrom_4 v_changes_5 v_waysFrom_6 v_costAt_7 v_places_8 v_isCut_9 hF
    unfold F_X11_chapter_b33 at hF
    refine gq_aload_n hC 0 dX11_chapter_33 rfl rfl ?_
    refine gq_get hC (kf := 4) 0 hin_X11 rfl rfl (by decide) hw_79 rfl dX11_chapter_34 ?_
    refine gq_if_le hC 42 dX11_chapter_37 (by decide) (fun hc_28 => ?_) (fun hc_28 => ?_)
    · have hF := (if_pos hc_28).symm.trans hF
      refine gq_aload_n hC 0 dX11_chapter_42 rfl rfl ?_
      refine gq_iload_n hC 1 dX11_chapter_43 rfl rfl ?_
      obtain ⟨r_10, hc_, hF⟩ := ob1_e hF
      refine gq_callVi hC [0, 4] [(h_t_, .inr (11, [.ref h_a, .ref h_fresh, .ref h_kept, .int v_keptMany, .int v_thrown_1, .ref h_buffer, .int v_buffered, .int v_size, .int v_at, .int v_behind, .int v_kind, .int v_wrong, .int v_wrongAt, .int v_errorAt, .long v_number, .ref h_worthFrom, .ref h_cutsFrom, .ref h_endFrom, .ref h_changes, .ref h_waysFrom, .int v_toCut, .int v_toLeave, .ref h_costAt, .ref h_places, .ref h_isCut, .ref h_written, .int v_writtenMany])), (h_a, .inl (cJ, 499, .inr (.inl v_a))), (h_worthFrom, .inl (cI, 33, .inl v_worthFrom_2)), (h_cutsFrom, .inl (cI, 33, .inl v_cutsFrom_3)), (h_endFrom, .inl (cI, 33, .inl v_endFrom_4)), (h_changes, .inl (cI, 32, .inl v_changes_5)), (h_waysFrom, .inl (cJ, 33, .inr (.inl v_waysFrom_6))), (h_costAt, .inl (cI, 160, .inl v_costAt_7)), (h_places, .inl (cI, 5, .inl v_places_8)), (h_isCut, .inl (cZ, 32, .inl v_isCut_9))] [.int x1] [] (k_X11_beginOf l D cI cJ cZ cO z h_t_ h_endFrom h_a h_fresh h_kept h_buffer h_worthFrom h_cutsFrom h_changes h_waysFrom h_costAt h_places h_isCut h_written x1 v_keptMany v_thrown_1 v_buffered v_size v_at v_behind v_kind v_wrong v_wrongAt v_errorAt v_number v_toCut v_toLeave v_writtenMany v_endFrom_4 r_10 hc_) gX11_chapter_X11_beginOf rfl ⟨rfl, rfl⟩ hy_X11_beginOf ⟨Nat.le_of_ble_eq_true rfl, Nat.le_of_ble_eq_true rfl⟩ rfl rfl rfl (q0 := 0) rfl rfl rfl (Nat.le_of_ble_eq_true rfl) rfl dX11_chapter_44 rfl rfl ?_
      refine gq_istore_n hC [(3, .int r_10), (0, .ref h_t_), (1, .int x1), (2, .int x2)] dX11_chapter_47 rfl (by decide) rfl ?_
      refine gq_aload_n hC 1 dX11_chapter_48 rfl rfl ?_
      refine gq_get hC (kf := 17) 0 hin_X11 rfl rfl (by decide) hw_33 rfl dX11_chapter_49 ?_
      refine gq_iload_n hC 0 dX11_chapter_52 rfl rfl ?_
      obtain ⟨hi_11, hF⟩ := gi_e hF
      refine gq_iald hC 4 0 rfl rfl hi_11 dX11_chapter_53 ?_
      refine gq_istore hC [(4, .int (v_endFrom_4 r_10.toNatClampNeg)), (3, .int r_10), (0, .ref h_t_), (1, .int x1), (2, .int x2)] dX11_chapter_54 (by decide) rfl ?_
      refine gq_iload_n hC 4 dX11_chapter_56 rfl rfl ?_
      by_cases hn_21 : x2 = 0
      · have hF := (if_pos hn_21).symm.trans hF
        refine gq_tblIn hC (off := 31) (v := 0) 88 dX11_chapter_57 hn_21 (by decide) (by decide) (by decide) (by decide) ?_
        refine gq_iload_n hC 1 dX11_chapter_88 rfl rfl ?_
        cases hF
        rw [hQ]
        exact gq_iret hC rfl dX11_chapter_89
      · have hF := (if_neg hn_21).symm.trans hF
        by_cases hn_22 : x2 = 1
        · have hF := (if_pos hn_22).symm.trans hF
          refine gq_tblIn hC (off := 33) (v := 1) 90 dX11_chapter_57 hn_22 (by decide) (by decide) (by decide) (by decide) ?_
          refine gq_iload hC 0 dX11_chapter_90 rfl ?_
          cases hF
          rw [hQ]
          exact gq_iret hC rfl dX11_chapter_92
        · have hF := (if_neg hn_22).symm.trans hF
          by_cases hn_23 : x2 = 2
          · have hF := (if_pos hn_23).symm.trans hF
            refine gq_tblIn hC (off := 36) (v := 2) 93 dX11_chapter_57 hn_23 (by decide) (by decide) (by decide) (by decide) ?_
            refine gq_aload_n hC 2 dX11_chapter_93 rfl rfl ?_
            refine gq_iload hC 0 dX11_chapter_94 rfl ?_
            refine gq_iconst hC (1 : Int32) dX11_chapter_96 (by decide) ?_
            refine gq_iadd hC dX11_chapter_97 ?_
            obtain ⟨r_26, hc_, hF⟩ := ob1_e hF
            refine gq_callVi hC [0, 1] [(h_t_, .inr (11, [.ref h_a, .ref h_fresh, .ref h_kept, .int v_keptMany, .int v_thrown_1, .ref h_buffer, .int v_buffered, .int v_size, .int v_at, .int v_behind, .int v_kind, .int v_wrong, .int v_wrongAt, .int v_errorAt, .long v_number, .ref h_worthFrom, .ref h_cutsFrom, .ref h_endFrom, .ref h_changes, .ref h_waysFrom, .int v_toCut, .int v_toLeave, .ref h_costAt, .ref h_places, .ref h_isCut, .ref h_written, .int v_writtenMany])), (h_a, .inl (cJ, 499, .inr (.inl v_a))), (h_worthFrom, .inl (cI, 33, .inl v_worthFrom_2)), (h_cutsFrom, .inl (cI, 33, .inl v_cutsFrom_3)), (h_endFrom, .inl (cI, 33, .inl v_endFrom_4)), (h_changes, .inl (cI, 32, .inl v_changes_5)), (h_waysFrom, .inl (cJ, 33, .inr (.inl v_waysFrom_6))), (h_costAt, .inl (cI, 160, .inl v_costAt_7)), (h_places, .inl (cI, 5, .inl v_places_8)), (h_isCut, .inl (cZ, 32, .inl v_isCut_9))] [.int ((v_endFrom_4 r_10.toNatClampNeg) + (1 : Int32))] [] (k_X11_spoken l D cI cJ cZ cO z h_t_ h_a h_fresh h_kept h_buffer h_worthFrom h_cutsFrom h_endFrom h_changes h_waysFrom h_costAt h_places h_isCut h_written ((v_endFrom_4 r_10.toNatClampNeg) + (1 : Int32)) v_keptMany v_thrown_1 v_buffered v_size v_at v_behind v_kind v_wrong v_wrongAt v_errorAt v_number v_toCut v_toLeave v_writtenMany v_a r_26 hc_) gX11_chapter_X11_spoken rfl ⟨rfl, rfl⟩ hy_X11_spoken ⟨Nat.le_of_ble_eq_true rfl, Nat.le_of_ble_eq_true rfl⟩ rfl rfl rfl (q0 := 0) rfl rfl rfl (Nat.le_of_ble_eq_true rfl) rfl dX11_chapter_98 rfl rfl ?_
            refine gq_aload_n hC 2 dX11_chapter_101 rfl rfl ?_
            refine gq_iload_n hC 1 dX11_chapter_102 rfl rfl ?_
            obtain ⟨r_27, hc_, hF⟩ := ob1_e hF
            refine gq_callVi hC [0, 1] [(h_t_, .inr (11, [.ref h_a, .ref h_fresh, .ref h_kept, .int v_keptMany, .int v_thrown_1, .ref h_buffer, .int v_buffered, .int v_size, .int v_at, .int v_behind, .int v_kind, .int v_wrong, .int v_wrongAt, .int v_errorAt, .long v_number, .ref h_worthFrom, .ref h_cutsFrom, .ref h_endFrom, .ref h_changes, .ref h_waysFrom, .int v_toCut, .int v_toLeave, .ref h_costAt, .ref h_places, .ref h_isCut, .ref h_written, .int v_writtenMany])), (h_a, .inl (cJ, 499, .inr (.inl v_a))), (h_worthFrom, .inl (cI, 33, .inl v_worthFrom_2)), (h_cutsFrom, .inl (cI, 33, .inl v_cutsFrom_3)), (h_endFrom, .inl (cI, 33, .inl v_endFrom_4)), (h_changes, .inl (cI, 32, .inl v_changes_5)), (h_waysFrom, .inl (cJ, 33, .inr (.inl v_waysFrom_6))), (h_costAt, .inl (cI, 160, .inl v_costAt_7)), (h_places, .inl (cI, 5, .inl v_places_8)), (h_isCut, .inl (cZ, 32, .inl v_isCut_9))] [.int r_10] [.int r_26] (k_X11_spoken l D cI cJ cZ cO z h_t_ h_a h_fresh h_kept h_buffer h_worthFrom h_cutsFrom h_endFrom h_changes h_waysFrom h_costAt h_places h_isCut h_written r_10 v_keptMany v_thrown_1 v_buffered v_size v_at v_behind v_kind v_wrong v_wrongAt v_errorAt v_number v_toCut v_toLeave v_writtenMany v_a r_27 hc_) gX11_chapter_X11_spoken rfl ⟨rfl, rfl⟩ hy_X11_spoken ⟨Nat.le_of_ble_eq_true rfl, Nat.le_of_ble_eq_true rfl⟩ rfl rfl rfl (q0 := 0) rfl rfl rfl (Nat.le_of_ble_eq_true rfl) rfl dX11_chapter_103 rfl rfl ?_
            refine gq_isub hC dX11_chapter_106 ?_
            cases hF
            rw [hQ]
            exact gq_iret hC rfl dX11_chapter_107
          · have hF := (if_neg hn_23).symm.trans hF
            by_cases hn_24 : x2 = 3
            · have hF := (if_pos hn_24).symm.trans hF
              refine gq_tblIn hC (off := 51) (v := 3) 108 dX11_chapter_57 hn_24 (by decide) (by decide) (by decide) (by decide) ?_
              refine gq_aload_n hC 2 dX11_chapter_108 rfl rfl ?_
              refine gq_iload_n hC 1 dX11_chapter_109 rfl rfl ?_
              refine gq_iload hC 0 dX11_chapter_110 rfl ?_
              obtain ⟨r_25, hc_, hF⟩ := ob1_e hF
              refine gq_callVi hC [0, 1] [(h_t_, .inr (11, [.ref h_a, .ref h_fresh, .ref h_kept, .int v_keptMany, .int v_thrown_1, .ref h_buffer, .int v_buffered, .int v_size, .int v_at, .int v_behind, .int v_kind, .int v_wrong, .int v_wrongAt, .int v_errorAt, .long v_number, .ref h_worthFrom, .ref h_cutsFrom, .ref h_endFrom, .ref h_changes, .ref h_waysFrom, .int v_toCut, .int v_toLeave, .ref h_costAt, .ref h_places, .ref h_isCut, .ref h_written, .int v_writtenMany])), (h_a, .inl (cJ, 499, .inr (.inl v_a))), (h_worthFrom, .inl (cI, 33, .inl v_worthFrom_2)), (h_cutsFrom, .inl (cI, 33, .inl v_cutsFrom_3)), (h_endFrom, .inl (cI, 33, .inl v_endFrom_4)), (h_changes, .inl (cI, 32, .inl v_changes_5)), (h_waysFrom, .inl (cJ, 33, .inr (.inl v_waysFrom_6))), (h_costAt, .inl (cI, 160, .inl v_costAt_7)), (h_places, .inl (cI, 5, .inl v_places_8)), (h_isCut, .inl (cZ, 32, .inl v_isCut_9))] [.int r_10, .int (v_endFrom_4 r_10.toNatClampNeg)] [] (k_X11_different l D cI cJ cZ cO z h_t_ h_a h_fresh h_kept h_buffer h_worthFrom h_cutsFrom h_endFrom h_changes h_waysFrom h_costAt h_places h_isCut h_written r_10 (v_endFrom_4 r_10.toNatClampNeg) v_keptMany v_thrown_1 v_buffered v_size v_at v_behind v_kind v_wrong v_wrongAt v_errorAt v_number v_toCut v_toLeave v_writtenMany v_a r_25 hc_) gX11_chapter_X11_different rfl ⟨rfl, rfl⟩ hy_X11_different ⟨Nat.le_of_ble_eq_true rfl, Nat.le_of_ble_eq_true rfl⟩ rfl rfl rfl (q0 := 0) rfl rfl rfl (Nat.le_of_ble_eq_true rfl) rfl dX11_chapter_112 rfl rfl ?_
              cases hF
              rw [hQ]
              exact gq_iret hC rfl dX11_chapter_115
            · have hF := (if_neg hn_24).symm.trans hF
              refine gq_tblOut hC 116 dX11_chapter_57 (by have h9 : ∀ z : Int32, z.toInt = z.toInt := fun _ => rfl; have := lv_neT hn_21 (show (0 : Int32).toInt = 0 from by decide); have := lv_neT hn_22 (show (1 : Int32).toInt = 1 from by decide); have := lv_neT hn_23 (show (2 : Int32).toInt = 2 from by decide); have := lv_neT hn_24 (show (3 : Int32).toInt = 3 from by decide); omega) (by decide) ?_
              refine gq_aload_n hC 2 dX11_chapter_116 rfl rfl ?_
              refine gq_iload_n hC 1 dX11_chapter_117 rfl rfl ?_
              obtain ⟨r_12, v_worthFrom_13, v_cutsFrom_14, v_endFrom_15, v_changes_16, v_waysFrom_17, v_costAt_18, v_places_19, v_isCut_20, hc_, hF⟩ := ob9_e hF
              refine gq_callVi hC [0, 1, 2, 3, 4, 5, 6, 7, 8, 9] [(h_t_, .inr (11, [.ref h_a, .ref h_fresh, .ref h_kept, .int v_keptMany, .int v_thrown_1, .ref h_buffer, .int v_buffered, .int v_size, .int v_at, .int v_behind, .int v_kind, .int v_wrong, .int v_wrongAt, .int v_errorAt, .long v_number, .ref h_worthFrom, .ref h_cutsFrom, .ref h_endFrom, .ref h_changes, .ref h_waysFrom, .int v_toCut, .int v_toLeave, .ref h_costAt, .ref h_places, .ref h_isCut, .ref h_written, .int v_writtenMany])), (h_a, .inl (cJ, 499, .inr (.inl v_a))), (h_worthFrom, .inl (cI, 33, .inl v_worthFrom_13)), (h_cutsFrom, .inl (cI, 33, .inl v_cutsFrom_14)), (h_endFrom, .inl (cI, 33, .inl v_endFrom_15)), (h_changes, .inl (cI, 32, .inl v_changes_16)), (h_waysFrom, .inl (cJ, 33, .inr (.inl v_waysFrom_17))), (h_costAt, .inl (cI, 160, .inl v_costAt_18)), (h_places, .inl (cI, 5, .inl v_places_19)), (h_isCut, .inl (cZ, 32, .inl v_isCut_20))] [.int r_10] [] (k_X11_realTime l D cI cJ cZ cO z h_t_ h_a h_worthFrom h_cutsFrom h_endFrom h_changes h_waysFrom h_costAt h_places h_isCut h_fresh h_kept h_buffer h_written r_10 v_keptMany v_thrown_1 v_buffered v_size v_at v_behind v_kind v_wrong v_wrongAt v_errorAt v_number v_toCut v_toLeave v_writtenMany v_a v_worthFrom_2 v_cutsFrom_3 v_endFrom_4 v_changes_5 v_waysFrom_6 v_costAt_7 v_places_8 v_isCut_9 r_12 v_worthFrom_13 v_cutsFrom_14 v_endFrom_15 v_changes_16 v_waysFrom_17 v_costAt_18 v_places_19 v_isCut_20 hc_) gX11_chapter_X11_realTime rfl ⟨rfl, rfl⟩ hy_X11_realTime ⟨Nat.le_of_ble_eq_true rfl, Nat.le_of_ble_eq_true rfl⟩ rfl rfl rfl (q0 := 0) rfl rfl rfl (Nat.le_of_ble_eq_true rfl) rfl dX11_chapter_118 rfl rfl ?_
              cases hF
              rw [hQ]
              exact gq_iret hC rfl dX11_chapter_121
    · have hF := (if_neg hc_28).symm.trans hF
      refine gq_iconst hC (0 : Int32) dX11_chapter_40 (by decide) ?_
      cases hF
      rw [hQ]
      exact gq_iret hC rfl dX11_chapter_41
  unfold F_X11_chapter at hF
  refine gq_aload_n hC 0 dX11_chapter_0 rfl rfl ?_
  refine gq_aload_n hC 0 dX11_chapter_1 rfl rfl ?_
  refine gq_iload_n hC 1 dX11_chapter_2 rfl rfl ?_
  obtain ⟨r_29, v_worthFrom_30, v_cutsFrom_31, v_endFrom_32, v_changes_33, v_waysFrom_34, hc_, hF⟩ := ob6_e hF
  refine gq_callVi hC [0, 1, 2, 3, 4, 5, 6] [(h_t_, .inr (11, [.ref h_a, .ref h_fresh, .ref h_kept, .int v_keptMany, .int v_thrown, .ref h_buffer, .int v_buffered, .int v_size, .int v_at, .int v_behind, .int v_kind, .int v_wrong, .int v_wrongAt, .int v_errorAt, .long v_number, .ref h_worthFrom, .ref h_cutsFrom, .ref h_endFrom, .ref h_changes, .ref h_waysFrom, .int v_toCut, .int v_toLeave, .ref h_costAt, .ref h_places, .ref h_isCut, .ref h_written, .int v_writtenMany])), (h_a, .inl (cJ, 499, .inr (.inl v_a))), (h_worthFrom, .inl (cI, 33, .inl v_worthFrom_30)), (h_cutsFrom, .inl (cI, 33, .inl v_cutsFrom_31)), (h_endFrom, .inl (cI, 33, .inl v_endFrom_32)), (h_changes, .inl (cI, 32, .inl v_changes_33)), (h_waysFrom, .inl (cJ, 33, .inr (.inl v_waysFrom_34))), (h_costAt, .inl (cI, 160, .inl v_costAt)), (h_places, .inl (cI, 5, .inl v_places)), (h_isCut, .inl (cZ, 32, .inl v_isCut))] [.int x1] [.ref h_t_] (k_X11_noChapter l D cI cJ cZ cO z h_t_ h_a h_worthFrom h_cutsFrom h_endFrom h_changes h_waysFrom h_fresh h_kept h_buffer h_costAt h_places h_isCut h_written x1 v_keptMany v_thrown v_buffered v_size v_at v_behind v_kind v_wrong v_wrongAt v_errorAt v_number v_toCut v_toLeave v_writtenMany v_a v_worthFrom v_cutsFrom v_endFrom v_changes v_waysFrom r_29 v_worthFrom_30 v_cutsFrom_31 v_endFrom_32 v_changes_33 v_waysFrom_34 hc_) gX11_chapter_X11_noChapter rfl ⟨rfl, rfl⟩ hy_X11_noChapter ⟨Nat.le_of_ble_eq_true rfl, Nat.le_of_ble_eq_true rfl⟩ rfl rfl rfl (q0 := 0) rfl rfl rfl (Nat.le_of_ble_eq_true rfl) rfl dX11_chapter_3 rfl rfl ?_
  refine gq_put1 hC (kf := 4) 0 [(h_t_, .inr (11, [.ref h_a, .ref h_fresh, .ref h_kept, .int v_keptMany, .int r_29, .ref h_buffer, .int v_buffered, .int v_size, .int v_at, .int v_behind, .int v_kind, .int v_wrong, .int v_wrongAt, .int v_errorAt, .long v_number, .ref h_worthFrom, .ref h_cutsFrom, .ref h_endFrom, .ref h_changes, .ref h_waysFrom, .int v_toCut, .int v_toLeave, .ref h_costAt, .ref h_places, .ref h_isCut, .ref h_written, .int v_writtenMany])), (h_a, .inl (cJ, 499, .inr (.inl v_a))), (h_worthFrom, .inl (cI, 33, .inl v_worthFrom_30)), (h_cutsFrom, .inl (cI, 33, .inl v_cutsFrom_31)), (h_endFrom, .inl (cI, 33, .inl v_endFrom_32)), (h_changes, .inl (cI, 32, .inl v_changes_33)), (h_waysFrom, .inl (cJ, 33, .inr (.inl v_waysFrom_34))), (h_costAt, .inl (cI, 160, .inl v_costAt)), (h_places, .inl (cI, 5, .inl v_places)), (h_isCut, .inl (cZ, 32, .inl v_isCut))] tyX11 tyX11_ok nmX11 hin_X11 rfl rfl (by decide) hw_79 rfl rfl rfl (Nat.le_of_ble_eq_true rfl) dX11_chapter_6 rfl ?_
  refine gq_aload_n hC 0 dX11_chapter_9 rfl rfl ?_
  refine gq_get hC (kf := 4) 0 hin_X11 rfl rfl (by decide) hw_79 rfl dX11_chapter_10 ?_
  refine gq_if_ne hC 33 dX11_chapter_13 (by decide) (fun hc_37 => ?_) (fun hc_37 => ?_)
  · have hF := (if_neg hc_37).symm.trans hF
    exact jb33 r_29 v_worthFrom_30 v_cutsFrom_31 v_endFrom_32 v_changes_33 v_waysFrom_34 v_costAt v_places v_isCut hF
  · have hF := (if_pos hc_37).symm.trans hF
    refine gq_iload_n hC 2 dX11_chapter_16 rfl rfl ?_
    refine gq_i2l hC dX11_chapter_17 ?_
    refine gq_lconst hC (0 : Int64) dX11_chapter_18 (by decide) ?_
    refine gq_ldc2 hC (4 : Int64) dX11_chapter_19 (by decide +kernel) ?_
    obtain ⟨r_35, hc_, hF⟩ := ob1_e hF
    refine gq_callSi hC [] [(h_t_, .inr (11, [.ref h_a, .ref h_fresh, .ref h_kept, .int v_keptMany, .int r_29, .ref h_buffer, .int v_buffered, .int v_size, .int v_at, .int v_behind, .int v_kind, .int v_wrong, .int v_wrongAt, .int v_errorAt, .long v_number, .ref h_worthFrom, .ref h_cutsFrom, .ref h_endFrom, .ref h_changes, .ref h_waysFrom, .int v_toCut, .int v_toLeave, .ref h_costAt, .ref h_places, .ref h_isCut, .ref h_written, .int v_writtenMany])), (h_a, .inl (cJ, 499, .inr (.inl v_a))), (h_worthFrom, .inl (cI, 33, .inl v_worthFrom_30)), (h_cutsFrom, .inl (cI, 33, .inl v_cutsFrom_31)), (h_endFrom, .inl (cI, 33, .inl v_endFrom_32)), (h_changes, .inl (cI, 32, .inl v_changes_33)), (h_waysFrom, .inl (cJ, 33, .inr (.inl v_waysFrom_34))), (h_costAt, .inl (cI, 160, .inl v_costAt)), (h_places, .inl (cI, 5, .inl v_places)), (h_isCut, .inl (cZ, 32, .inl v_isCut))] [.long (x2.toInt64), .long (0 : Int64), .long (4 : Int64)] [] (k_X11_isIn l D cI cJ cZ cO z  (x2.toInt64) (0 : Int64) (4 : Int64) r_35 hc_) gX11_chapter_X11_isIn rfl ⟨rfl, rfl⟩ hy_X11_isIn rfl ⟨Nat.le_of_ble_eq_true rfl, Nat.le_of_ble_eq_true rfl⟩ rfl rfl rfl (Nat.le_of_ble_eq_true rfl) rfl dX11_chapter_22 rfl rfl ?_
    refine gq_if_ne hC 33 dX11_chapter_25 (by decide) (fun hc_36 => ?_) (fun hc_36 => ?_)
    · have hF := (if_neg hc_36).symm.trans hF
      exact jb33 r_29 v_worthFrom_30 v_cutsFrom_31 v_endFrom_32 v_changes_33 v_waysFrom_34 v_costAt v_places v_isCut hF
    · have hF := (if_pos hc_36).symm.trans hF
      refine gq_aload_n hC 0 dX11_chapter_28 rfl rfl ?_
      refine gq_iconst hC (3 : Int32) dX11_chapter_29 (by decide) ?_
      refine gq_put1 hC (kf := 4) 0 [(h_t_, .inr (11, [.ref h_a, .ref h_fresh, .ref h_kept, .int v_keptMany, .int (3 : Int32), .ref h_buffer, .int v_buffered, .int v_size, .int v_at, .int v_behind, .int v_kind, .int v_wrong, .int v_wrongAt, .int v_errorAt, .long v_number, .ref h_worthFrom, .ref h_cutsFrom, .ref h_endFrom, .ref h_changes, .ref h_waysFrom, .int v_toCut, .int v_toLeave, .ref h_costAt, .ref h_places, .ref h_isCut, .ref h_written, .int v_writtenMany])), (h_a, .inl (cJ, 499, .inr (.inl v_a))), (h_worthFrom, .inl (cI, 33, .inl v_worthFrom_30)), (h_cutsFrom, .inl (cI, 33, .inl v_cutsFrom_31)), (h_endFrom, .inl (cI, 33, .inl v_endFrom_32)), (h_changes, .inl (cI, 32, .inl v_changes_33)), (h_waysFrom, .inl (cJ, 33, .inr (.inl v_waysFrom_34))), (h_costAt, .inl (cI, 160, .inl v_costAt)), (h_places, .inl (cI, 5, .inl v_places)), (h_isCut, .inl (cZ, 32, .inl v_isCut))] tyX11 tyX11_ok nmX11 hin_X11 rfl rfl (by decide) hw_79 rfl rfl rfl (Nat.le_of_ble_eq_true rfl) dX11_chapter_30 rfl ?_
      exact jb33 (3 : Int32) v_worthFrom_30 v_cutsFrom_31 v_endFrom_32 v_changes_33 v_waysFrom_34 v_costAt v_places v_isCut hF
theorem hy_X11_chapterAt : yX11_chapterAt.cls = RX11 ∧ yX11_chapterAt.cls ≠ "java/lang/invoke/MethodHandle" ∧ yX11_chapterAt.cls ≠ "java/lang/invoke/VarHandle" ∧ (parseMethodDescriptor yX11_chapterAt.desc).map (fun d => d.parameters.length) = some 1 := by decide +kernel
set_option maxRecDepth 20000 in
set_option maxHeartbeats 4000000 in
theorem k_X11_chapterAt (l : Launch) (D : va_G) (cI cJ cZ cO : ClassId) (z : Nat → Nat)   (h_t_ : Nat) (h_endFrom : Nat) (h_a : Nat) (h_fresh : Nat) (h_kept : Nat) (h_buffer : Nat) (h_worthFrom : Nat) (h_cutsFrom : Nat) (h_changes : Nat) (h_waysFrom : Nat) (h_costAt : Nat) (h_places : Nat) (h_isCut : Nat) (h_written : Nat) (x1 : Int32) (v_keptMany : Int32) (v_thrown : Int32) (v_buffered : Int32) (v_size : Int32) (v_at : Int32) (v_behind : Int32) (v_kind : Int32) (v_wrong : Int32) (v_wrongAt : Int32) (v_errorAt : Int32) (v_number : Int64) (v_toCut : Int32) (v_toLeave : Int32) (v_writtenMany : Int32) (v_endFrom : Nat → Int32) (r_ : Int32) (hF : F_X11_chapterAt x1 v_endFrom = some r_) : Mi l yX11_chapterAt wsX11_chapterAt (rmD 0) D (gq_ty cI cJ cZ cO) z [.ref h_t_, .int x1] [(h_t_, .inr (11, [.ref h_a, .ref h_fresh, .ref h_kept, .int v_keptMany, .int v_thrown, .ref h_buffer, .int v_buffered, .int v_size, .int v_at, .int v_behind, .int v_kind, .int v_wrong, .int v_wrongAt, .int v_errorAt, .long v_number, .ref h_worthFrom, .ref h_cutsFrom, .ref h_endFrom, .ref h_changes, .ref h_waysFrom, .int v_toCut, .int v_toLeave, .ref h_costAt, .ref h_places, .ref h_isCut, .ref h_written, .int v_writtenMany])), (h_endFrom, .inl (cI, 33, .inl v_endFrom))] r_ [(h_t_, .inr (11, [.ref h_a, .ref h_fresh, .ref h_kept, .int v_keptMany, .int v_thrown, .ref h_buffer, .int v_buffered, .int v_size, .int v_at, .int v_behind, .int v_kind, .int v_wrong, .int v_wrongAt, .int v_errorAt, .long v_number, .ref h_worthFrom, .ref h_cutsFrom, .ref h_endFrom, .ref h_changes, .ref h_waysFrom, .int v_toCut, .int v_toLeave, .ref h_costAt, .ref h_places, .ref h_isCut, .ref h_written, .int v_writtenMany])), (h_endFrom, .inl (cI, 33, .inl v_endFrom))] 0 0 := by
  refine Mi.of (cc := cX11_chapterAt) (maxL := 4) (by decide) rfl (Nat.le_of_ble_eq_true rfl) ⟨Nat.le_refl 0, Nat.le_refl 0⟩ ?_
  intro p e s m args below meth c A hC ha
  have hin_X11 : ∀ w ∈ wsX110, w ∈ wsX11_chapterAt := by decide +kernel
  have hw_33 : Cond.fieldLink RX11 33 (TX11 17).1 (TX11 17).2.1 (TX11 17).2.2.1 ∈ wsX11_chapterAt := by decide +kernel
  obtain ⟨Q, hQ⟩ : ∃ Q, Q = gq_Qi below D A args s r_ [(h_t_, .inr (11, [.ref h_a, .ref h_fresh, .ref h_kept, .int v_keptMany, .int v_thrown, .ref h_buffer, .int v_buffered, .int v_size, .int v_at, .int v_behind, .int v_kind, .int v_wrong, .int v_wrongAt, .int v_errorAt, .long v_number, .ref h_worthFrom, .ref h_cutsFrom, .ref h_endFrom, .ref h_changes, .ref h_waysFrom, .int v_toCut, .int v_toLeave, .ref h_costAt, .ref h_places, .ref h_isCut, .ref h_written, .int v_writtenMany])), (h_endFrom, .inl (cI, 33, .inl v_endFrom))] 0 0 := ⟨_, rfl⟩
  rw [← hQ]
  refine gq_loc [(0, .ref h_t_), (1, .int x1)] rfl ?_
  unfold F_X11_chapterAt at hF
  refine gq_iconst hC (0 : Int32) dX11_chapterAt_0 (by decide) ?_
  refine gq_istore_n hC [(2, .int (0 : Int32)), (0, .ref h_t_), (1, .int x1)] dX11_chapterAt_1 rfl (by decide) rfl ?_
  refine gq_iconst hC (0 : Int32) dX11_chapterAt_2 (by decide) ?_
  refine gq_istore_n hC [(3, .int (0 : Int32)), (2, .int (0 : Int32)), (0, .ref h_t_), (1, .int x1)] dX11_chapterAt_3 rfl (by decide) rfl ?_
  have lp4 : ∀ (e_6 : Int32), Gx p l e (rmD 0) s m args below meth c D A 4 Q 0 0 29 [(2, .int e_6)] [] [(h_t_, .inr (11, [.ref h_a, .ref h_fresh, .ref h_kept, .int v_keptMany, .int v_thrown, .ref h_buffer, .int v_buffered, .int v_size, .int v_at, .int v_behind, .int v_kind, .int v_wrong, .int v_wrongAt, .int v_errorAt, .long v_number, .ref h_worthFrom, .ref h_cutsFrom, .ref h_endFrom, .ref h_changes, .ref h_waysFrom, .int v_toCut, .int v_toLeave, .ref h_costAt, .ref h_places, .ref h_isCut, .ref h_written, .int v_writtenMany])), (h_endFrom, .inl (cI, 33, .inl v_endFrom))] → ∀ (N : Nat) (l2_1 : Int32) (l3_2 : Int32), wh (fun k q => S_X11_chapterAt_4 x1 v_endFrom k q.1 q.2) N (l2_1, l3_2) = some e_6 → Gx p l e (rmD 0) s m args below meth c D A 4 Q 0 0 4 [(0, .ref h_t_), (1, .int x1), (2, .int l2_1), (3, .int l3_2)] [] [(h_t_, .inr (11, [.ref h_a, .ref h_fresh, .ref h_kept, .int v_keptMany, .int v_thrown, .ref h_buffer, .int v_buffered, .int v_size, .int v_at, .int v_behind, .int v_kind, .int v_wrong, .int v_wrongAt, .int v_errorAt, .long v_number, .ref h_worthFrom, .ref h_cutsFrom, .ref h_endFrom, .ref h_changes, .ref h_waysFrom, .int v_toCut, .int v_toLeave, .ref h_costAt, .ref h_places, .ref h_isCut, .ref h_written, .int v_writtenMany])), (h_endFrom, .inl (cI, 33, .inl v_endFrom))] := by
    intro e_6 hx0 N
    induction N with
    | zero => intro l2_1 l3_2 hw; exact absurd hw (wh_0 _ _ _)
    | succ N ih =>
      intro l2_1 l3_2 hw
      have hF : S_X11_chapterAt_4 x1 v_endFrom (wh (fun k q => S_X11_chapterAt_4 x1 v_endFrom k q.1 q.2) N) l2_1 l3_2 = some e_6 := hw
      unfold S_X11_chapterAt_4 at hF
      refine gq_aload_n hC 0 dX11_chapterAt_4 rfl rfl ?_
      refine gq_get hC (kf := 17) 0 hin_X11 rfl rfl (by decide) hw_33 rfl dX11_chapterAt_5 ?_
      refine gq_iload_n hC 3 dX11_chapterAt_8 rfl rfl ?_
      obtain ⟨hi_3, hF⟩ := gi_e hF
      refine gq_iald hC 1 0 rfl rfl hi_3 dX11_chapterAt_9 ?_
      refine gq_iload_n hC 1 dX11_chapterAt_10 rfl rfl ?_
      refine gq_icmp_ge hC 29 dX11_chapterAt_11 (by decide) (fun hc_5 => ?_) (fun hc_5 => ?_)
      · have hF := (if_pos hc_5).symm.trans hF
        refine gq_sub [(2, .int l2_1)] [2] rfl ?_
        cases hF
        exact hx0
      · have hF := (if_neg hc_5).symm.trans hF
        refine gq_aload_n hC 0 dX11_chapterAt_14 rfl rfl ?_
        refine gq_get hC (kf := 17) 0 hin_X11 rfl rfl (by decide) hw_33 rfl dX11_chapterAt_15 ?_
        refine gq_iload_n hC 3 dX11_chapterAt_18 rfl rfl ?_
        obtain ⟨hi_4, hF⟩ := gi_e hF
        refine gq_iald hC 1 0 rfl rfl hi_4 dX11_chapterAt_19 ?_
        refine gq_iconst hC (1 : Int32) dX11_chapterAt_20 (by decide) ?_
        refine gq_iadd hC dX11_chapterAt_21 ?_
        refine gq_istore_n hC [(3, .int ((v_endFrom l3_2.toNatClampNeg) + (1 : Int32))), (0, .ref h_t_), (1, .int x1), (2, .int l2_1)] dX11_chapterAt_22 rfl (by decide) rfl ?_
        refine gq_iinc hC 3 (l2_1 + (1 : Int32)) [(2, .int (l2_1 + (1 : Int32))), (3, .int ((v_endFrom l3_2.toNatClampNeg) + (1 : Int32))), (0, .ref h_t_), (1, .int x1)] dX11_chapterAt_23 rfl rfl (by decide) rfl ?_
        refine gq_goto hC 4 dX11_chapterAt_26 (by decide) ?_
        refine gq_sub [(0, .ref h_t_), (1, .int x1), (2, .int (l2_1 + (1 : Int32))), (3, .int ((v_endFrom l3_2.toNatClampNeg) + (1 : Int32)))] [2, 3, 0, 1] rfl ?_
        exact ih (l2_1 + (1 : Int32)) ((v_endFrom l3_2.toNatClampNeg) + (1 : Int32)) hF
  refine gq_sub [(0, .ref h_t_), (1, .int x1), (2, .int (0 : Int32)), (3, .int (0 : Int32))] [2, 3, 1, 0] rfl ?_
  obtain ⟨e_7, hw_, hF⟩ := ob1_e hF
  refine lp4  e_7 ?_ wF (0 : Int32) (0 : Int32) hw_
  refine gq_iload_n hC 0 dX11_chapterAt_29 rfl rfl ?_
  cases hF
  rw [hQ]
  exact gq_iret hC rfl dX11_chapterAt_30
theorem hy_X11_chapterOf : yX11_chapterOf.cls = RX11 ∧ yX11_chapterOf.cls ≠ "java/lang/invoke/MethodHandle" ∧ yX11_chapterOf.cls ≠ "java/lang/invoke/VarHandle" ∧ (parseMethodDescriptor yX11_chapterOf.desc).map (fun d => d.parameters.length) = some 1 := by decide +kernel
set_option maxRecDepth 20000 in
set_option maxHeartbeats 4000000 in
theorem k_X11_chapterOf (l : Launch) (D : va_G) (cI cJ cZ cO : ClassId) (z : Nat → Nat)   (h_t_ : Nat) (h_a : Nat) (h_worthFrom : Nat) (h_cutsFrom : Nat) (h_endFrom : Nat) (h_changes : Nat) (h_waysFrom : Nat) (h_fresh : Nat) (h_kept : Nat) (h_buffer : Nat) (h_costAt : Nat) (h_places : Nat) (h_isCut : Nat) (h_written : Nat) (x1 : Int32) (v_keptMany : Int32) (v_thrown : Int32) (v_buffered : Int32) (v_size : Int32) (v_at : Int32) (v_behind : Int32) (v_kind : Int32) (v_wrong : Int32) (v_wrongAt : Int32) (v_errorAt : Int32) (v_number : Int64) (v_toCut : Int32) (v_toLeave : Int32) (v_writtenMany : Int32) (v_a : Nat → Int64) (v_worthFrom : Nat → Int32) (v_cutsFrom : Nat → Int32) (v_endFrom : Nat → Int32) (v_changes : Nat → Int32) (v_waysFrom : Nat → Int64) (r_ : Int32) (w_thrown : Int32) (w_worthFrom : Nat → Int32) (w_cutsFrom : Nat → Int32) (w_endFrom : Nat → Int32) (w_changes : Nat → Int32) (w_waysFrom : Nat → Int64) (hF : F_X11_chapterOf x1 v_thrown v_toCut v_toLeave v_a v_worthFrom v_cutsFrom v_endFrom v_changes v_waysFrom = some (r_, w_thrown, w_worthFrom, w_cutsFrom, w_endFrom, w_changes, w_waysFrom)) : Mi l yX11_chapterOf wsX11_chapterOf (rmD 6) D (gq_ty cI cJ cZ cO) z [.ref h_t_, .int x1] [(h_t_, .inr (11, [.ref h_a, .ref h_fresh, .ref h_kept, .int v_keptMany, .int v_thrown, .ref h_buffer, .int v_buffered, .int v_size, .int v_at, .int v_behind, .int v_kind, .int v_wrong, .int v_wrongAt, .int v_errorAt, .long v_number, .ref h_worthFrom, .ref h_cutsFrom, .ref h_endFrom, .ref h_changes, .ref h_waysFrom, .int v_toCut, .int v_toLeave, .ref h_costAt, .ref h_places, .ref h_isCut, .ref h_written, .int v_writtenMany])), (h_a, .inl (cJ, 499, .inr (.inl v_a))), (h_worthFrom, .inl (cI, 33, .inl v_worthFrom)), (h_cutsFrom, .inl (cI, 33, .inl v_cutsFrom)), (h_endFrom, .inl (cI, 33, .inl v_endFrom)), (h_changes, .inl (cI, 32, .inl v_changes)), (h_waysFrom, .inl (cJ, 33, .inr (.inl v_waysFrom)))] r_ [(h_t_, .inr (11, [.ref h_a, .ref h_fresh, .ref h_kept, .int v_keptMany, .int w_thrown, .ref h_buffer, .int v_buffered, .int v_size, .int v_at, .int v_behind, .int v_kind, .int v_wrong, .int v_wrongAt, .int v_errorAt, .long v_number, .ref h_worthFrom, .ref h_cutsFrom, .ref h_endFrom, .ref h_changes, .ref h_waysFrom, .int v_toCut, .int v_toLeave, .ref h_costAt, .ref h_places, .ref h_isCut, .ref h_written, .int v_writtenMany])), (h_a, .inl (cJ, 499, .inr (.inl v_a))), (h_worthFrom, .inl (cI, 33, .inl w_worthFrom)), (h_cutsFrom, .inl (cI, 33, .inl w_cutsFrom)), (h_endFrom, .inl (cI, 33, .inl w_endFrom)), (h_changes, .inl (cI, 32, .inl w_changes)), (h_waysFrom, .inl (cJ, 33, .inr (.inl w_waysFrom)))] 0 0 := by
  refine Mi.of (cc := cX11_chapterOf) (maxL := 2) (by decide) rfl (Nat.le_of_ble_eq_true rfl) ⟨Nat.le_refl 0, Nat.le_refl 0⟩ ?_
  intro p e s m args below meth c A hC ha
  have hin_X11 : ∀ w ∈ wsX110, w ∈ wsX11_chapterOf := by decide +kernel
  have hw_79 : Cond.fieldLink RX11 79 (TX11 4).1 (TX11 4).2.1 (TX11 4).2.2.1 ∈ wsX11_chapterOf := by decide +kernel
  obtain ⟨Q, hQ⟩ : ∃ Q, Q = gq_Qi below D A args s r_ [(h_t_, .inr (11, [.ref h_a, .ref h_fresh, .ref h_kept, .int v_keptMany, .int w_thrown, .ref h_buffer, .int v_buffered, .int v_size, .int v_at, .int v_behind, .int v_kind, .int v_wrong, .int v_wrongAt, .int v_errorAt, .long v_number, .ref h_worthFrom, .ref h_cutsFrom, .ref h_endFrom, .ref h_changes, .ref h_waysFrom, .int v_toCut, .int v_toLeave, .ref h_costAt, .ref h_places, .ref h_isCut, .ref h_written, .int v_writtenMany])), (h_a, .inl (cJ, 499, .inr (.inl v_a))), (h_worthFrom, .inl (cI, 33, .inl w_worthFrom)), (h_cutsFrom, .inl (cI, 33, .inl w_cutsFrom)), (h_endFrom, .inl (cI, 33, .inl w_endFrom)), (h_changes, .inl (cI, 32, .inl w_changes)), (h_waysFrom, .inl (cJ, 33, .inr (.inl w_waysFrom)))] 0 0 := ⟨_, rfl⟩
  rw [← hQ]
  refine gq_loc [(0, .ref h_t_), (1, .int x1)] rfl ?_
  have jb14 : ∀ (st_1 : Int32) (v_thrown_2 : Int32) (v_worthFrom_3 : Nat → Int32) (v_cutsFrom_4 : Nat → Int32) (v_endFrom_5 : Nat → Int32) (v_changes_6 : Nat → Int32) (v_waysFrom_7 : Nat → Int64), F_X11_chapterOf_b14 x1 st_1 v_thrown_2 v_toCut v_toLeave v_a v_worthFrom_3 v_cutsFrom_4 v_endFrom_5 v_changes_6 v_waysFrom_7 = some (r_, w_thrown, w_worthFrom, w_cutsFrom, w_endFrom, w_changes, w_waysFrom) → Gx p l e (rmD 6) s m args below meth c D A 2 Q 0 0 14 [(0, .ref h_t_), (1, .int x1)] [.int st_1, .ref h_t_] [(h_t_, .inr (11, [.ref h_a, .ref h_fresh, .ref h_kept, .int v_keptMany, .int v_thrown_2, .ref h_buffer, .int v_buffered, .int v_size, .int v_at, .int v_behind, .int v_kind, .int v_wrong, .int v_wrongAt, .int v_errorAt, .long v_number, .ref h_worthFrom, .ref h_cutsFrom, .ref h_endFrom, .ref h_changes, .ref h_waysFrom, .int v_toCut, .int v_toLeave, .ref h_costAt, .ref h_places, .ref h_isCut, .ref h_written, .int v_writtenMany])), (h_a, .inl (cJ, 499, .inr (.inl v_a))), (h_worthFrom, .inl (cI, 33, .inl v_worthFrom_3)), (h_cutsFrom, .inl (cI, 33, .inl v_cutsFrom_4)), (h_endFrom, .inl (cI, 33, .inl v_endFrom_5)), (h_changes, .inl (cI, 32, .inl v_changes_6)), (h_waysFrom, .inl (cJ, 33, .inr (.inl v_waysFrom_7)))] := by
    intro st_1 v_thrown_2 v_worthFrom_3 v_cutsFrom_4 v_endFrom_5 v_changes_6 v_waysFrom_7 hF
    unfold F_X11_chapterOf_b14 at hF
    refine gq_put1 hC (kf := 4) 0 [(h_t_, .inr (11, [.ref h_a, .ref h_fresh, .ref h_kept, .int v_keptMany, .int st_1, .ref h_buffer, .int v_buffered, .int v_size, .int v_at, .int v_behind, .int v_kind, .int v_wrong, .int v_wrongAt, .int v_errorAt, .long v_number, .ref h_worthFrom, .ref h_cutsFrom, .ref h_endFrom, .ref h_changes, .ref h_waysFrom, .int v_toCut, .int v_toLeave, .ref h_costAt, .ref h_places, .ref h_isCut, .ref h_written, .int v_writtenMany])), (h_a, .inl (cJ, 499, .inr (.inl v_a))), (h_worthFrom, .inl (cI, 33, .inl v_worthFrom_3)), (h_cutsFrom, .inl (cI, 33, .inl v_cutsFrom_4)), (h_endFrom, .inl (cI, 33, .inl v_endFrom_5)), (h_changes, .inl (cI, 32, .inl v_changes_6)), (h_waysFrom, .inl (cJ, 33, .inr (.inl v_waysFrom_7)))] tyX11 tyX11_ok nmX11 hin_X11 rfl rfl (by decide) hw_79 rfl rfl rfl (Nat.le_of_ble_eq_true rfl) dX11_chapterOf_14 rfl ?_
    refine gq_aload_n hC 0 dX11_chapterOf_17 rfl rfl ?_
    refine gq_get hC (kf := 4) 0 hin_X11 rfl rfl (by decide) hw_79 rfl dX11_chapterOf_18 ?_
    refine gq_if_le hC 26 dX11_chapterOf_21 (by decide) (fun hc_16 => ?_) (fun hc_16 => ?_)
    · have hF := (if_pos hc_16).symm.trans hF
      refine gq_aload_n hC 0 dX11_chapterOf_26 rfl rfl ?_
      obtain ⟨r_8, v_worthFrom_9, v_cutsFrom_10, v_endFrom_11, v_changes_12, v_waysFrom_13, hc_, hF⟩ := ob6_e hF
      refine gq_callVi hC [0, 1, 2, 3, 4, 5, 6] [(h_t_, .inr (11, [.ref h_a, .ref h_fresh, .ref h_kept, .int v_keptMany, .int st_1, .ref h_buffer, .int v_buffered, .int v_size, .int v_at, .int v_behind, .int v_kind, .int v_wrong, .int v_wrongAt, .int v_errorAt, .long v_number, .ref h_worthFrom, .ref h_cutsFrom, .ref h_endFrom, .ref h_changes, .ref h_waysFrom, .int v_toCut, .int v_toLeave, .ref h_costAt, .ref h_places, .ref h_isCut, .ref h_written, .int v_writtenMany])), (h_a, .inl (cJ, 499, .inr (.inl v_a))), (h_worthFrom, .inl (cI, 33, .inl v_worthFrom_9)), (h_cutsFrom, .inl (cI, 33, .inl v_cutsFrom_10)), (h_endFrom, .inl (cI, 33, .inl v_endFrom_11)), (h_changes, .inl (cI, 32, .inl v_changes_12)), (h_waysFrom, .inl (cJ, 33, .inr (.inl v_waysFrom_13)))] [] [] (k_X11_hasBest l D cI cJ cZ cO z h_t_ h_a h_worthFrom h_cutsFrom h_endFrom h_changes h_waysFrom h_fresh h_kept h_buffer h_costAt h_places h_isCut h_written v_keptMany st_1 v_buffered v_size v_at v_behind v_kind v_wrong v_wrongAt v_errorAt v_number v_toCut v_toLeave v_writtenMany v_a v_worthFrom_3 v_cutsFrom_4 v_endFrom_5 v_changes_6 v_waysFrom_7 r_8 v_worthFrom_9 v_cutsFrom_10 v_endFrom_11 v_changes_12 v_waysFrom_13 hc_) gX11_chapterOf_X11_hasBest rfl ⟨rfl, rfl⟩ hy_X11_hasBest ⟨Nat.le_of_ble_eq_true rfl, Nat.le_of_ble_eq_true rfl⟩ rfl rfl rfl (q0 := 0) rfl rfl rfl (Nat.le_of_ble_eq_true rfl) rfl dX11_chapterOf_27 rfl rfl ?_
      refine gq_if_eq hC 41 dX11_chapterOf_30 (by decide) (fun hc_15 => ?_) (fun hc_15 => ?_)
      · have hF := (if_pos hc_15).symm.trans hF
        refine gq_iconst hC (-1 : Int32) dX11_chapterOf_41 (by decide) ?_
        cases hF
        rw [hQ]
        exact gq_iret hC rfl dX11_chapterOf_42
      · have hF := (if_neg hc_15).symm.trans hF
        refine gq_aload_n hC 0 dX11_chapterOf_33 rfl rfl ?_
        refine gq_iload_n hC 1 dX11_chapterOf_34 rfl rfl ?_
        obtain ⟨r_14, hc_, hF⟩ := ob1_e hF
        refine gq_callVi hC [0, 4] [(h_t_, .inr (11, [.ref h_a, .ref h_fresh, .ref h_kept, .int v_keptMany, .int st_1, .ref h_buffer, .int v_buffered, .int v_size, .int v_at, .int v_behind, .int v_kind, .int v_wrong, .int v_wrongAt, .int v_errorAt, .long v_number, .ref h_worthFrom, .ref h_cutsFrom, .ref h_endFrom, .ref h_changes, .ref h_waysFrom, .int v_toCut, .int v_toLeave, .ref h_costAt, .ref h_places, .ref h_isCut, .ref h_written, .int v_writtenMany])), (h_a, .inl (cJ, 499, .inr (.inl v_a))), (h_worthFrom, .inl (cI, 33, .inl v_worthFrom_9)), (h_cutsFrom, .inl (cI, 33, .inl v_cutsFrom_10)), (h_endFrom, .inl (cI, 33, .inl v_endFrom_11)), (h_changes, .inl (cI, 32, .inl v_changes_12)), (h_waysFrom, .inl (cJ, 33, .inr (.inl v_waysFrom_13)))] [.int x1] [] (k_X11_chapterAt l D cI cJ cZ cO z h_t_ h_endFrom h_a h_fresh h_kept h_buffer h_worthFrom h_cutsFrom h_changes h_waysFrom h_costAt h_places h_isCut h_written x1 v_keptMany st_1 v_buffered v_size v_at v_behind v_kind v_wrong v_wrongAt v_errorAt v_number v_toCut v_toLeave v_writtenMany v_endFrom_11 r_14 hc_) gX11_chapterOf_X11_chapterAt rfl ⟨rfl, rfl⟩ hy_X11_chapterAt ⟨Nat.le_of_ble_eq_true rfl, Nat.le_of_ble_eq_true rfl⟩ rfl rfl rfl (q0 := 0) rfl rfl rfl (Nat.le_of_ble_eq_true rfl) rfl dX11_chapterOf_35 rfl rfl ?_
        refine gq_goto hC 42 dX11_chapterOf_38 (by decide) ?_
        cases hF
        rw [hQ]
        exact gq_iret hC rfl dX11_chapterOf_42
    · have hF := (if_neg hc_16).symm.trans hF
      refine gq_iconst hC (0 : Int32) dX11_chapterOf_24 (by decide) ?_
      cases hF
      rw [hQ]
      exact gq_iret hC rfl dX11_chapterOf_25
  unfold F_X11_chapterOf at hF
  refine gq_aload_n hC 0 dX11_chapterOf_0 rfl rfl ?_
  refine gq_aload_n hC 0 dX11_chapterOf_1 rfl rfl ?_
  refine gq_iload_n hC 1 dX11_chapterOf_2 rfl rfl ?_
  obtain ⟨r_17, hc_, hF⟩ := ob1_e hF
  refine gq_callVi hC [0, 1] [(h_t_, .inr (11, [.ref h_a, .ref h_fresh, .ref h_kept, .int v_keptMany, .int v_thrown, .ref h_buffer, .int v_buffered, .int v_size, .int v_at, .int v_behind, .int v_kind, .int v_wrong, .int v_wrongAt, .int v_errorAt, .long v_number, .ref h_worthFrom, .ref h_cutsFrom, .ref h_endFrom, .ref h_changes, .ref h_waysFrom, .int v_toCut, .int v_toLeave, .ref h_costAt, .ref h_places, .ref h_isCut, .ref h_written, .int v_writtenMany])), (h_a, .inl (cJ, 499, .inr (.inl v_a))), (h_worthFrom, .inl (cI, 33, .inl v_worthFrom)), (h_cutsFrom, .inl (cI, 33, .inl v_cutsFrom)), (h_endFrom, .inl (cI, 33, .inl v_endFrom)), (h_changes, .inl (cI, 32, .inl v_changes)), (h_waysFrom, .inl (cJ, 33, .inr (.inl v_waysFrom)))] [.int x1] [.ref h_t_] (k_X11_isSegment l D cI cJ cZ cO z h_t_ h_a h_fresh h_kept h_buffer h_worthFrom h_cutsFrom h_endFrom h_changes h_waysFrom h_costAt h_places h_isCut h_written x1 v_keptMany v_thrown v_buffered v_size v_at v_behind v_kind v_wrong v_wrongAt v_errorAt v_number v_toCut v_toLeave v_writtenMany v_a r_17 hc_) gX11_chapterOf_X11_isSegment rfl ⟨rfl, rfl⟩ hy_X11_isSegment ⟨Nat.le_of_ble_eq_true rfl, Nat.le_of_ble_eq_true rfl⟩ rfl rfl rfl (q0 := 0) rfl rfl rfl (Nat.le_of_ble_eq_true rfl) rfl dX11_chapterOf_3 rfl rfl ?_
  refine gq_if_eq hC 13 dX11_chapterOf_6 (by decide) (fun hc_18 => ?_) (fun hc_18 => ?_)
  · have hF := (if_pos hc_18).symm.trans hF
    refine gq_iconst hC (1 : Int32) dX11_chapterOf_13 (by decide) ?_
    exact jb14 (1 : Int32) v_thrown v_worthFrom v_cutsFrom v_endFrom v_changes v_waysFrom hF
  · have hF := (if_neg hc_18).symm.trans hF
    refine gq_iconst hC (0 : Int32) dX11_chapterOf_9 (by decide) ?_
    refine gq_goto hC 14 dX11_chapterOf_10 (by decide) ?_
    exact jb14 (0 : Int32) v_thrown v_worthFrom v_cutsFrom v_endFrom v_changes v_waysFrom hF
theorem hy_X11_areCuts : yX11_areCuts.cls = RX11 ∧ yX11_areCuts.cls ≠ "java/lang/invoke/MethodHandle" ∧ yX11_areCuts.cls ≠ "java/lang/invoke/VarHandle" ∧ (parseMethodDescriptor yX11_areCuts.desc).map (fun d => d.parameters.length) = some 1 := by decide +kernel
set_option maxRecDepth 20000 in
set_option maxHeartbeats 4000000 in
theorem k_X11_areCuts (l : Launch) (D : va_G) (cI cJ cZ cO : ClassId) (z : Nat → Nat)   (h_t_ : Nat) (h_a : Nat) (h_fresh : Nat) (h_kept : Nat) (h_buffer : Nat) (h_worthFrom : Nat) (h_cutsFrom : Nat) (h_endFrom : Nat) (h_changes : Nat) (h_waysFrom : Nat) (h_costAt : Nat) (h_places : Nat) (h_isCut : Nat) (h_written : Nat) (x1 : Int32) (v_keptMany : Int32) (v_thrown : Int32) (v_buffered : Int32) (v_size : Int32) (v_at : Int32) (v_behind : Int32) (v_kind : Int32) (v_wrong : Int32) (v_wrongAt : Int32) (v_errorAt : Int32) (v_number : Int64) (v_toCut : Int32) (v_toLeave : Int32) (v_writtenMany : Int32) (v_a : Nat → Int64) (r_ : Int32) (hF : F_X11_areCuts x1 v_a = some r_) : Mi l yX11_areCuts wsX11_areCuts (rmD 1) D (gq_ty cI cJ cZ cO) z [.ref h_t_, .int x1] [(h_t_, .inr (11, [.ref h_a, .ref h_fresh, .ref h_kept, .int v_keptMany, .int v_thrown, .ref h_buffer, .int v_buffered, .int v_size, .int v_at, .int v_behind, .int v_kind, .int v_wrong, .int v_wrongAt, .int v_errorAt, .long v_number, .ref h_worthFrom, .ref h_cutsFrom, .ref h_endFrom, .ref h_changes, .ref h_waysFrom, .int v_toCut, .int v_toLeave, .ref h_costAt, .ref h_places, .ref h_isCut, .ref h_written, .int v_writtenMany])), (h_a, .inl (cJ, 499, .inr (.inl v_a)))] r_ [(h_t_, .inr (11, [.ref h_a, .ref h_fresh, .ref h_kept, .int v_keptMany, .int v_thrown, .ref h_buffer, .int v_buffered, .int v_size, .int v_at, .int v_behind, .int v_kind, .int v_wrong, .int v_wrongAt, .int v_errorAt, .long v_number, .ref h_worthFrom, .ref h_cutsFrom, .ref h_endFrom, .ref h_changes, .ref h_waysFrom, .int v_toCut, .int v_toLeave, .ref h_costAt, .ref h_places, .ref h_isCut, .ref h_written, .int v_writtenMany])), (h_a, .inl (cJ, 499, .inr (.inl v_a)))] 0 0 := by
  refine Mi.of (cc := cX11_areCuts) (maxL := 2) (by decide) rfl (Nat.le_of_ble_eq_true rfl) ⟨Nat.le_refl 0, Nat.le_refl 0⟩ ?_
  intro p e s m args below meth c A hC ha
  obtain ⟨Q, hQ⟩ : ∃ Q, Q = gq_Qi below D A args s r_ [(h_t_, .inr (11, [.ref h_a, .ref h_fresh, .ref h_kept, .int v_keptMany, .int v_thrown, .ref h_buffer, .int v_buffered, .int v_size, .int v_at, .int v_behind, .int v_kind, .int v_wrong, .int v_wrongAt, .int v_errorAt, .long v_number, .ref h_worthFrom, .ref h_cutsFrom, .ref h_endFrom, .ref h_changes, .ref h_waysFrom, .int v_toCut, .int v_toLeave, .ref h_costAt, .ref h_places, .ref h_isCut, .ref h_written, .int v_writtenMany])), (h_a, .inl (cJ, 499, .inr (.inl v_a)))] 0 0 := ⟨_, rfl⟩
  rw [← hQ]
  refine gq_loc [(0, .ref h_t_), (1, .int x1)] rfl ?_
  have jb25 : ∀ (st_1 : Int64) (st_2 : Int64) (st_3 : Int64), F_X11_areCuts_b25 st_1 st_2 st_3 = some r_ → Gx p l e (rmD 1) s m args below meth c D A 2 Q 0 0 25 [] [.long st_1, .long st_2, .long st_3] [(h_t_, .inr (11, [.ref h_a, .ref h_fresh, .ref h_kept, .int v_keptMany, .int v_thrown, .ref h_buffer, .int v_buffered, .int v_size, .int v_at, .int v_behind, .int v_kind, .int v_wrong, .int v_wrongAt, .int v_errorAt, .long v_number, .ref h_worthFrom, .ref h_cutsFrom, .ref h_endFrom, .ref h_changes, .ref h_waysFrom, .int v_toCut, .int v_toLeave, .ref h_costAt, .ref h_places, .ref h_isCut, .ref h_written, .int v_writtenMany])), (h_a, .inl (cJ, 499, .inr (.inl v_a)))] := by
    intro st_1 st_2 st_3 hF
    unfold F_X11_areCuts_b25 at hF
    obtain ⟨r_4, hc_, hF⟩ := ob1_e hF
    refine gq_callSi hC [] [(h_t_, .inr (11, [.ref h_a, .ref h_fresh, .ref h_kept, .int v_keptMany, .int v_thrown, .ref h_buffer, .int v_buffered, .int v_size, .int v_at, .int v_behind, .int v_kind, .int v_wrong, .int v_wrongAt, .int v_errorAt, .long v_number, .ref h_worthFrom, .ref h_cutsFrom, .ref h_endFrom, .ref h_changes, .ref h_waysFrom, .int v_toCut, .int v_toLeave, .ref h_costAt, .ref h_places, .ref h_isCut, .ref h_written, .int v_writtenMany])), (h_a, .inl (cJ, 499, .inr (.inl v_a)))] [.long st_3, .long st_2, .long st_1] [] (k_X11_isIn l D cI cJ cZ cO z  st_3 st_2 st_1 r_4 hc_) gX11_areCuts_X11_isIn rfl ⟨rfl, rfl⟩ hy_X11_isIn rfl ⟨Nat.le_of_ble_eq_true rfl, Nat.le_of_ble_eq_true rfl⟩ rfl rfl rfl (Nat.le_of_ble_eq_true rfl) rfl dX11_areCuts_25 rfl rfl ?_
    obtain ⟨hb_5, hF⟩ := gb_e hF
    cases hF
    rw [hQ]
    exact gq_iret hC (gb_n hb_5) dX11_areCuts_28
  unfold F_X11_areCuts at hF
  refine gq_iload_n hC 1 dX11_areCuts_0 rfl rfl ?_
  refine gq_i2l hC dX11_areCuts_1 ?_
  refine gq_lconst hC (0 : Int64) dX11_areCuts_2 (by decide) ?_
  refine gq_aload_n hC 0 dX11_areCuts_3 rfl rfl ?_
  obtain ⟨r_6, hc_, hF⟩ := ob1_e hF
  refine gq_callVi hC [0, 1] [(h_t_, .inr (11, [.ref h_a, .ref h_fresh, .ref h_kept, .int v_keptMany, .int v_thrown, .ref h_buffer, .int v_buffered, .int v_size, .int v_at, .int v_behind, .int v_kind, .int v_wrong, .int v_wrongAt, .int v_errorAt, .long v_number, .ref h_worthFrom, .ref h_cutsFrom, .ref h_endFrom, .ref h_changes, .ref h_waysFrom, .int v_toCut, .int v_toLeave, .ref h_costAt, .ref h_places, .ref h_isCut, .ref h_written, .int v_writtenMany])), (h_a, .inl (cJ, 499, .inr (.inl v_a)))] [] [.long (0 : Int64), .long (x1.toInt64)] (k_X11_many l D cI cJ cZ cO z h_t_ h_a h_fresh h_kept h_buffer h_worthFrom h_cutsFrom h_endFrom h_changes h_waysFrom h_costAt h_places h_isCut h_written v_keptMany v_thrown v_buffered v_size v_at v_behind v_kind v_wrong v_wrongAt v_errorAt v_number v_toCut v_toLeave v_writtenMany v_a r_6 hc_) gX11_areCuts_X11_many rfl ⟨rfl, rfl⟩ hy_X11_many ⟨Nat.le_of_ble_eq_true rfl, Nat.le_of_ble_eq_true rfl⟩ rfl rfl rfl (q0 := 0) rfl rfl rfl (Nat.le_of_ble_eq_true rfl) rfl dX11_areCuts_4 rfl rfl ?_
  refine gq_iconst hC (2 : Int32) dX11_areCuts_7 (by decide) ?_
  refine gq_icmp_ge hC 15 dX11_areCuts_8 (by decide) (fun hc_8 => ?_) (fun hc_8 => ?_)
  · have hF := (if_pos hc_8).symm.trans hF
    refine gq_lconst hC (1 : Int64) dX11_areCuts_15 (by decide) ?_
    refine gq_aload_n hC 0 dX11_areCuts_16 rfl rfl ?_
    obtain ⟨r_7, hc_, hF⟩ := ob1_e hF
    refine gq_callVi hC [0, 1] [(h_t_, .inr (11, [.ref h_a, .ref h_fresh, .ref h_kept, .int v_keptMany, .int v_thrown, .ref h_buffer, .int v_buffered, .int v_size, .int v_at, .int v_behind, .int v_kind, .int v_wrong, .int v_wrongAt, .int v_errorAt, .long v_number, .ref h_worthFrom, .ref h_cutsFrom, .ref h_endFrom, .ref h_changes, .ref h_waysFrom, .int v_toCut, .int v_toLeave, .ref h_costAt, .ref h_places, .ref h_isCut, .ref h_written, .int v_writtenMany])), (h_a, .inl (cJ, 499, .inr (.inl v_a)))] [] [.long (1 : Int64), .long (0 : Int64), .long (x1.toInt64)] (k_X11_many l D cI cJ cZ cO z h_t_ h_a h_fresh h_kept h_buffer h_worthFrom h_cutsFrom h_endFrom h_changes h_waysFrom h_costAt h_places h_isCut h_written v_keptMany v_thrown v_buffered v_size v_at v_behind v_kind v_wrong v_wrongAt v_errorAt v_number v_toCut v_toLeave v_writtenMany v_a r_7 hc_) gX11_areCuts_X11_many rfl ⟨rfl, rfl⟩ hy_X11_many ⟨Nat.le_of_ble_eq_true rfl, Nat.le_of_ble_eq_true rfl⟩ rfl rfl rfl (q0 := 0) rfl rfl rfl (Nat.le_of_ble_eq_true rfl) rfl dX11_areCuts_17 rfl rfl ?_
    refine gq_iconst hC (1 : Int32) dX11_areCuts_20 (by decide) ?_
    refine gq_isub hC dX11_areCuts_21 ?_
    refine gq_lshl hC dX11_areCuts_22 ?_
    refine gq_lconst hC (1 : Int64) dX11_areCuts_23 (by decide) ?_
    refine gq_lsub hC dX11_areCuts_24 ?_
    refine gq_sub [] [] rfl ?_
    exact jb25 (((1 : Int64) <<< ((r_7 - (1 : Int32)).toInt64 &&& 63)) - (1 : Int64)) (0 : Int64) (x1.toInt64) hF
  · have hF := (if_neg hc_8).symm.trans hF
    refine gq_lconst hC (0 : Int64) dX11_areCuts_11 (by decide) ?_
    refine gq_goto hC 25 dX11_areCuts_12 (by decide) ?_
    refine gq_sub [] [] rfl ?_
    exact jb25 (0 : Int64) (0 : Int64) (x1.toInt64) hF
theorem hy_X11_has : yX11_has.cls = RX11 ∧ yX11_has.cls ≠ "java/lang/invoke/MethodHandle" ∧ yX11_has.cls ≠ "java/lang/invoke/VarHandle" ∧ (parseMethodDescriptor yX11_has.desc).map (fun d => d.parameters.length) = some 2 := by decide +kernel
set_option maxRecDepth 20000 in
set_option maxHeartbeats 4000000 in
theorem k_X11_has (l : Launch) (D : va_G) (cI cJ cZ cO : ClassId) (z : Nat → Nat)    (x0 : Int32) (x1 : Int32)  (r_ : Int32) (hF : F_X11_has x0 x1 = some r_) : Mi l yX11_has wsX11_has (rmD 0) D (gq_ty cI cJ cZ cO) z [.int x0, .int x1] [] r_ [] 0 0 := by
  refine Mi.of (cc := cX11_has) (maxL := 2) (by decide) rfl (Nat.le_of_ble_eq_true rfl) ⟨Nat.le_refl 0, Nat.le_refl 0⟩ ?_
  intro p e s m args below meth c A hC ha
  obtain ⟨Q, hQ⟩ : ∃ Q, Q = gq_Qi below D A args s r_ [] 0 0 := ⟨_, rfl⟩
  rw [← hQ]
  refine gq_loc [(0, .int x0), (1, .int x1)] rfl ?_
  unfold F_X11_has at hF
  refine gq_iload_n hC 0 dX11_has_0 rfl rfl ?_
  refine gq_iload_n hC 1 dX11_has_1 rfl rfl ?_
  refine gq_ishr hC dX11_has_2 ?_
  refine gq_iconst hC (1 : Int32) dX11_has_3 (by decide) ?_
  refine gq_iand hC dX11_has_4 ?_
  refine gq_iconst hC (1 : Int32) dX11_has_5 (by decide) ?_
  refine gq_icmp_ne hC 13 dX11_has_6 (by decide) (fun hc_1 => ?_) (fun hc_1 => ?_)
  · have hF := (if_neg hc_1).symm.trans hF
    refine gq_iconst hC (0 : Int32) dX11_has_13 (by decide) ?_
    cases hF
    rw [hQ]
    exact gq_iret hC rfl dX11_has_14
  · have hF := (if_pos hc_1).symm.trans hF
    refine gq_iconst hC (1 : Int32) dX11_has_9 (by decide) ?_
    refine gq_goto hC 14 dX11_has_10 (by decide) ?_
    cases hF
    rw [hQ]
    exact gq_iret hC rfl dX11_has_14
theorem hy_X11_worthOf : yX11_worthOf.cls = RX11 ∧ yX11_worthOf.cls ≠ "java/lang/invoke/MethodHandle" ∧ yX11_worthOf.cls ≠ "java/lang/invoke/VarHandle" ∧ (parseMethodDescriptor yX11_worthOf.desc).map (fun d => d.parameters.length) = some 1 := by decide +kernel
set_option maxRecDepth 20000 in
set_option maxHeartbeats 4000000 in
theorem k_X11_worthOf (l : Launch) (D : va_G) (cI cJ cZ cO : ClassId) (z : Nat → Nat)   (h_t_ : Nat) (h_a : Nat) (h_fresh : Nat) (h_kept : Nat) (h_buffer : Nat) (h_worthFrom : Nat) (h_cutsFrom : Nat) (h_endFrom : Nat) (h_changes : Nat) (h_waysFrom : Nat) (h_costAt : Nat) (h_places : Nat) (h_isCut : Nat) (h_written : Nat) (x1 : Int32) (v_keptMany : Int32) (v_thrown : Int32) (v_buffered : Int32) (v_size : Int32) (v_at : Int32) (v_behind : Int32) (v_kind : Int32) (v_wrong : Int32) (v_wrongAt : Int32) (v_errorAt : Int32) (v_number : Int64) (v_toCut : Int32) (v_toLeave : Int32) (v_writtenMany : Int32) (v_a : Nat → Int64) (r_ : Int32) (w_thrown : Int32) (hF : F_X11_worthOf x1 v_thrown v_a = some (r_, w_thrown)) : Mi l yX11_worthOf wsX11_worthOf (rmD 4) D (gq_ty cI cJ cZ cO) z [.ref h_t_, .int x1] [(h_t_, .inr (11, [.ref h_a, .ref h_fresh, .ref h_kept, .int v_keptMany, .int v_thrown, .ref h_buffer, .int v_buffered, .int v_size, .int v_at, .int v_behind, .int v_kind, .int v_wrong, .int v_wrongAt, .int v_errorAt, .long v_number, .ref h_worthFrom, .ref h_cutsFrom, .ref h_endFrom, .ref h_changes, .ref h_waysFrom, .int v_toCut, .int v_toLeave, .ref h_costAt, .ref h_places, .ref h_isCut, .ref h_written, .int v_writtenMany])), (h_a, .inl (cJ, 499, .inr (.inl v_a)))] r_ [(h_t_, .inr (11, [.ref h_a, .ref h_fresh, .ref h_kept, .int v_keptMany, .int w_thrown, .ref h_buffer, .int v_buffered, .int v_size, .int v_at, .int v_behind, .int v_kind, .int v_wrong, .int v_wrongAt, .int v_errorAt, .long v_number, .ref h_worthFrom, .ref h_cutsFrom, .ref h_endFrom, .ref h_changes, .ref h_waysFrom, .int v_toCut, .int v_toLeave, .ref h_costAt, .ref h_places, .ref h_isCut, .ref h_written, .int v_writtenMany])), (h_a, .inl (cJ, 499, .inr (.inl v_a)))] 0 0 := by
  refine Mi.of (cc := cX11_worthOf) (maxL := 4) (by decide) rfl (Nat.le_of_ble_eq_true rfl) ⟨Nat.le_refl 0, Nat.le_refl 0⟩ ?_
  intro p e s m args below meth c A hC ha
  have hin_X11 : ∀ w ∈ wsX110, w ∈ wsX11_worthOf := by decide +kernel
  have hw_9 : Cond.fieldLink RX11 9 (TX11 0).1 (TX11 0).2.1 (TX11 0).2.2.1 ∈ wsX11_worthOf := by decide +kernel
  have hw_79 : Cond.fieldLink RX11 79 (TX11 4).1 (TX11 4).2.1 (TX11 4).2.2.1 ∈ wsX11_worthOf := by decide +kernel
  obtain ⟨Q, hQ⟩ : ∃ Q, Q = gq_Qi below D A args s r_ [(h_t_, .inr (11, [.ref h_a, .ref h_fresh, .ref h_kept, .int v_keptMany, .int w_thrown, .ref h_buffer, .int v_buffered, .int v_size, .int v_at, .int v_behind, .int v_kind, .int v_wrong, .int v_wrongAt, .int v_errorAt, .long v_number, .ref h_worthFrom, .ref h_cutsFrom, .ref h_endFrom, .ref h_changes, .ref h_waysFrom, .int v_toCut, .int v_toLeave, .ref h_costAt, .ref h_places, .ref h_isCut, .ref h_written, .int v_writtenMany])), (h_a, .inl (cJ, 499, .inr (.inl v_a)))] 0 0 := ⟨_, rfl⟩
  rw [← hQ]
  refine gq_loc [(0, .ref h_t_), (1, .int x1)] rfl ?_
  have jb14 : ∀ (st_1 : Int32) (v_thrown_2 : Int32), F_X11_worthOf_b14 x1 st_1 v_thrown_2 v_a = some (r_, w_thrown) → Gx p l e (rmD 4) s m args below meth c D A 4 Q 0 0 14 [(0, .ref h_t_), (1, .int x1)] [.int st_1, .ref h_t_] [(h_t_, .inr (11, [.ref h_a, .ref h_fresh, .ref h_kept, .int v_keptMany, .int v_thrown_2, .ref h_buffer, .int v_buffered, .int v_size, .int v_at, .int v_behind, .int v_kind, .int v_wrong, .int v_wrongAt, .int v_errorAt, .long v_number, .ref h_worthFrom, .ref h_cutsFrom, .ref h_endFrom, .ref h_changes, .ref h_waysFrom, .int v_toCut, .int v_toLeave, .ref h_costAt, .ref h_places, .ref h_isCut, .ref h_written, .int v_writtenMany])), (h_a, .inl (cJ, 499, .inr (.inl v_a)))] := by
    intro st_1 v_thrown_2 hF
    unfold F_X11_worthOf_b14 at hF
    refine gq_put1 hC (kf := 4) 0 [(h_t_, .inr (11, [.ref h_a, .ref h_fresh, .ref h_kept, .int v_keptMany, .int st_1, .ref h_buffer, .int v_buffered, .int v_size, .int v_at, .int v_behind, .int v_kind, .int v_wrong, .int v_wrongAt, .int v_errorAt, .long v_number, .ref h_worthFrom, .ref h_cutsFrom, .ref h_endFrom, .ref h_changes, .ref h_waysFrom, .int v_toCut, .int v_toLeave, .ref h_costAt, .ref h_places, .ref h_isCut, .ref h_written, .int v_writtenMany])), (h_a, .inl (cJ, 499, .inr (.inl v_a)))] tyX11 tyX11_ok nmX11 hin_X11 rfl rfl (by decide) hw_79 rfl rfl rfl (Nat.le_of_ble_eq_true rfl) dX11_worthOf_14 rfl ?_
    refine gq_aload_n hC 0 dX11_worthOf_17 rfl rfl ?_
    refine gq_get hC (kf := 4) 0 hin_X11 rfl rfl (by decide) hw_79 rfl dX11_worthOf_18 ?_
    refine gq_if_le hC 26 dX11_worthOf_21 (by decide) (fun hc_14 => ?_) (fun hc_14 => ?_)
    · have hF := (if_pos hc_14).symm.trans hF
      refine gq_iconst hC (0 : Int32) dX11_worthOf_26 (by decide) ?_
      refine gq_istore_n hC [(2, .int (0 : Int32)), (0, .ref h_t_), (1, .int x1)] dX11_worthOf_27 rfl (by decide) rfl ?_
      refine gq_iconst hC (0 : Int32) dX11_worthOf_28 (by decide) ?_
      refine gq_istore_n hC [(3, .int (0 : Int32)), (2, .int (0 : Int32)), (0, .ref h_t_), (1, .int x1)] dX11_worthOf_29 rfl (by decide) rfl ?_
      have lp30 : ∀ (v_thrown_5 : Int32), ∀ (e_12 : Int32), Gx p l e (rmD 4) s m args below meth c D A 4 Q 0 0 74 [(2, .int e_12)] [] [(h_t_, .inr (11, [.ref h_a, .ref h_fresh, .ref h_kept, .int v_keptMany, .int v_thrown_5, .ref h_buffer, .int v_buffered, .int v_size, .int v_at, .int v_behind, .int v_kind, .int v_wrong, .int v_wrongAt, .int v_errorAt, .long v_number, .ref h_worthFrom, .ref h_cutsFrom, .ref h_endFrom, .ref h_changes, .ref h_waysFrom, .int v_toCut, .int v_toLeave, .ref h_costAt, .ref h_places, .ref h_isCut, .ref h_written, .int v_writtenMany])), (h_a, .inl (cJ, 499, .inr (.inl v_a)))] → ∀ (N : Nat) (l2_3 : Int32) (l3_4 : Int32), wh (fun k q => S_X11_worthOf_30 x1 v_thrown_5 v_a k q.1 q.2) N (l2_3, l3_4) = some e_12 → Gx p l e (rmD 4) s m args below meth c D A 4 Q 0 0 30 [(0, .ref h_t_), (1, .int x1), (2, .int l2_3), (3, .int l3_4)] [] [(h_t_, .inr (11, [.ref h_a, .ref h_fresh, .ref h_kept, .int v_keptMany, .int v_thrown_5, .ref h_buffer, .int v_buffered, .int v_size, .int v_at, .int v_behind, .int v_kind, .int v_wrong, .int v_wrongAt, .int v_errorAt, .long v_number, .ref h_worthFrom, .ref h_cutsFrom, .ref h_endFrom, .ref h_changes, .ref h_waysFrom, .int v_toCut, .int v_toLeave, .ref h_costAt, .ref h_places, .ref h_isCut, .ref h_written, .int v_writtenMany])), (h_a, .inl (cJ, 499, .inr (.inl v_a)))] := by
        intro v_thrown_5 e_12 hx0 N
        induction N with
        | zero => intro l2_3 l3_4 hw; exact absurd hw (wh_0 _ _ _)
        | succ N ih =>
          intro l2_3 l3_4 hw
          have hF : S_X11_worthOf_30 x1 v_thrown_5 v_a (wh (fun k q => S_X11_worthOf_30 x1 v_thrown_5 v_a k q.1 q.2) N) l2_3 l3_4 = some e_12 := hw
          unfold S_X11_worthOf_30 at hF
          refine gq_iload_n hC 3 dX11_worthOf_30 rfl rfl ?_
          refine gq_aload_n hC 0 dX11_worthOf_31 rfl rfl ?_
          obtain ⟨r_6, hc_, hF⟩ := ob1_e hF
          refine gq_callVi hC [0, 1] [(h_t_, .inr (11, [.ref h_a, .ref h_fresh, .ref h_kept, .int v_keptMany, .int v_thrown_5, .ref h_buffer, .int v_buffered, .int v_size, .int v_at, .int v_behind, .int v_kind, .int v_wrong, .int v_wrongAt, .int v_errorAt, .long v_number, .ref h_worthFrom, .ref h_cutsFrom, .ref h_endFrom, .ref h_changes, .ref h_waysFrom, .int v_toCut, .int v_toLeave, .ref h_costAt, .ref h_places, .ref h_isCut, .ref h_written, .int v_writtenMany])), (h_a, .inl (cJ, 499, .inr (.inl v_a)))] [] [.int l3_4] (k_X11_many l D cI cJ cZ cO z h_t_ h_a h_fresh h_kept h_buffer h_worthFrom h_cutsFrom h_endFrom h_changes h_waysFrom h_costAt h_places h_isCut h_written v_keptMany v_thrown_5 v_buffered v_size v_at v_behind v_kind v_wrong v_wrongAt v_errorAt v_number v_toCut v_toLeave v_writtenMany v_a r_6 hc_) gX11_worthOf_X11_many rfl ⟨rfl, rfl⟩ hy_X11_many ⟨Nat.le_of_ble_eq_true rfl, Nat.le_of_ble_eq_true rfl⟩ rfl rfl rfl (q0 := 0) rfl rfl rfl (Nat.le_of_ble_eq_true rfl) rfl dX11_worthOf_32 rfl rfl ?_
          refine gq_iconst hC (1 : Int32) dX11_worthOf_35 (by decide) ?_
          refine gq_isub hC dX11_worthOf_36 ?_
          refine gq_icmp_ge hC 74 dX11_worthOf_37 (by decide) (fun hc_11 => ?_) (fun hc_11 => ?_)
          · have hF := (if_pos hc_11).symm.trans hF
            refine gq_sub [(2, .int l2_3)] [2] rfl ?_
            cases hF
            exact hx0
          · have hF := (if_neg hc_11).symm.trans hF
            refine gq_iload_n hC 2 dX11_worthOf_40 rfl rfl ?_
            refine gq_iload_n hC 1 dX11_worthOf_41 rfl rfl ?_
            refine gq_iload_n hC 3 dX11_worthOf_42 rfl rfl ?_
            obtain ⟨r_7, hc_, hF⟩ := ob1_e hF
            refine gq_callSi hC [] [(h_t_, .inr (11, [.ref h_a, .ref h_fresh, .ref h_kept, .int v_keptMany, .int v_thrown_5, .ref h_buffer, .int v_buffered, .int v_size, .int v_at, .int v_behind, .int v_kind, .int v_wrong, .int v_wrongAt, .int v_errorAt, .long v_number, .ref h_worthFrom, .ref h_cutsFrom, .ref h_endFrom, .ref h_changes, .ref h_waysFrom, .int v_toCut, .int v_toLeave, .ref h_costAt, .ref h_places, .ref h_isCut, .ref h_written, .int v_writtenMany])), (h_a, .inl (cJ, 499, .inr (.inl v_a)))] [.int x1, .int l3_4] [.int l2_3] (k_X11_has l D cI cJ cZ cO z  x1 l3_4 r_7 hc_) gX11_worthOf_X11_has rfl ⟨rfl, rfl⟩ hy_X11_has rfl ⟨Nat.le_of_ble_eq_true rfl, Nat.le_of_ble_eq_true rfl⟩ rfl rfl rfl (Nat.le_of_ble_eq_true rfl) rfl dX11_worthOf_43 rfl rfl ?_
            refine gq_if_eq hC 65 dX11_worthOf_46 (by decide) (fun hc_10 => ?_) (fun hc_10 => ?_)
            · have hF := (if_pos hc_10).symm.trans hF
              refine gq_iconst hC (0 : Int32) dX11_worthOf_65 (by decide) ?_
              refine gq_iadd hC dX11_worthOf_66 ?_
              refine gq_istore_n hC [(2, .int (l2_3 + (0 : Int32))), (0, .ref h_t_), (1, .int x1), (3, .int l3_4)] dX11_worthOf_67 rfl (by decide) rfl ?_
              refine gq_iinc hC 3 (l3_4 + (1 : Int32)) [(3, .int (l3_4 + (1 : Int32))), (2, .int (l2_3 + (0 : Int32))), (0, .ref h_t_), (1, .int x1)] dX11_worthOf_68 rfl rfl (by decide) rfl ?_
              refine gq_goto hC 30 dX11_worthOf_71 (by decide) ?_
              refine gq_sub [(0, .ref h_t_), (1, .int x1), (2, .int (l2_3 + (0 : Int32))), (3, .int (l3_4 + (1 : Int32)))] [2, 3, 1, 0] rfl ?_
              exact ih (l2_3 + (0 : Int32)) (l3_4 + (1 : Int32)) hF
            · have hF := (if_neg hc_10).symm.trans hF
              refine gq_aload_n hC 0 dX11_worthOf_49 rfl rfl ?_
              refine gq_iload_n hC 3 dX11_worthOf_50 rfl rfl ?_
              obtain ⟨r_8, hc_, hF⟩ := ob1_e hF
              refine gq_callVi hC [0, 1] [(h_t_, .inr (11, [.ref h_a, .ref h_fresh, .ref h_kept, .int v_keptMany, .int v_thrown_5, .ref h_buffer, .int v_buffered, .int v_size, .int v_at, .int v_behind, .int v_kind, .int v_wrong, .int v_wrongAt, .int v_errorAt, .long v_number, .ref h_worthFrom, .ref h_cutsFrom, .ref h_endFrom, .ref h_changes, .ref h_waysFrom, .int v_toCut, .int v_toLeave, .ref h_costAt, .ref h_places, .ref h_isCut, .ref h_written, .int v_writtenMany])), (h_a, .inl (cJ, 499, .inr (.inl v_a)))] [.int l3_4] [.int l2_3] (k_X11_changeOf l D cI cJ cZ cO z h_t_ h_a h_fresh h_kept h_buffer h_worthFrom h_cutsFrom h_endFrom h_changes h_waysFrom h_costAt h_places h_isCut h_written l3_4 v_keptMany v_thrown_5 v_buffered v_size v_at v_behind v_kind v_wrong v_wrongAt v_errorAt v_number v_toCut v_toLeave v_writtenMany v_a r_8 hc_) gX11_worthOf_X11_changeOf rfl ⟨rfl, rfl⟩ hy_X11_changeOf ⟨Nat.le_of_ble_eq_true rfl, Nat.le_of_ble_eq_true rfl⟩ rfl rfl rfl (q0 := 0) rfl rfl rfl (Nat.le_of_ble_eq_true rfl) rfl dX11_worthOf_51 rfl rfl ?_
              refine gq_aload_n hC 0 dX11_worthOf_54 rfl rfl ?_
              refine gq_get hC (kf := 0) 0 hin_X11 rfl rfl (by decide) hw_9 rfl dX11_worthOf_55 ?_
              refine gq_iconst hC (3 : Int32) dX11_worthOf_58 (by decide) ?_
              obtain ⟨hi_9, hF⟩ := gi_e hF
              refine gq_lald hC 1 1 rfl rfl hi_9 dX11_worthOf_59 ?_
              refine gq_l2i hC dX11_worthOf_60 ?_
              refine gq_isub hC dX11_worthOf_61 ?_
              refine gq_goto hC 66 dX11_worthOf_62 (by decide) ?_
              refine gq_iadd hC dX11_worthOf_66 ?_
              refine gq_istore_n hC [(2, .int (l2_3 + (r_8 - ((v_a (3 : Int32).toNatClampNeg).toInt32)))), (0, .ref h_t_), (1, .int x1), (3, .int l3_4)] dX11_worthOf_67 rfl (by decide) rfl ?_
              refine gq_iinc hC 3 (l3_4 + (1 : Int32)) [(3, .int (l3_4 + (1 : Int32))), (2, .int (l2_3 + (r_8 - ((v_a (3 : Int32).toNatClampNeg).toInt32)))), (0, .ref h_t_), (1, .int x1)] dX11_worthOf_68 rfl rfl (by decide) rfl ?_
              refine gq_goto hC 30 dX11_worthOf_71 (by decide) ?_
              refine gq_sub [(0, .ref h_t_), (1, .int x1), (2, .int (l2_3 + (r_8 - ((v_a (3 : Int32).toNatClampNeg).toInt32)))), (3, .int (l3_4 + (1 : Int32)))] [2, 3, 1, 0] rfl ?_
              exact ih (l2_3 + (r_8 - ((v_a (3 : Int32).toNatClampNeg).toInt32))) (l3_4 + (1 : Int32)) hF
      refine gq_sub [(0, .ref h_t_), (1, .int x1), (2, .int (0 : Int32)), (3, .int (0 : Int32))] [2, 3, 1, 0] rfl ?_
      obtain ⟨e_13, hw_, hF⟩ := ob1_e hF
      refine lp30 st_1 e_13 ?_ wF (0 : Int32) (0 : Int32) hw_
      refine gq_iload_n hC 0 dX11_worthOf_74 rfl rfl ?_
      cases hF
      rw [hQ]
      exact gq_iret hC rfl dX11_worthOf_75
    · have hF := (if_neg hc_14).symm.trans hF
      refine gq_iconst hC (0 : Int32) dX11_worthOf_24 (by decide) ?_
      cases hF
      rw [hQ]
      exact gq_iret hC rfl dX11_worthOf_25
  unfold F_X11_worthOf at hF
  refine gq_aload_n hC 0 dX11_worthOf_0 rfl rfl ?_
  refine gq_aload_n hC 0 dX11_worthOf_1 rfl rfl ?_
  refine gq_iload_n hC 1 dX11_worthOf_2 rfl rfl ?_
  obtain ⟨r_15, hc_, hF⟩ := ob1_e hF
  refine gq_callVi hC [0, 1] [(h_t_, .inr (11, [.ref h_a, .ref h_fresh, .ref h_kept, .int v_keptMany, .int v_thrown, .ref h_buffer, .int v_buffered, .int v_size, .int v_at, .int v_behind, .int v_kind, .int v_wrong, .int v_wrongAt, .int v_errorAt, .long v_number, .ref h_worthFrom, .ref h_cutsFrom, .ref h_endFrom, .ref h_changes, .ref h_waysFrom, .int v_toCut, .int v_toLeave, .ref h_costAt, .ref h_places, .ref h_isCut, .ref h_written, .int v_writtenMany])), (h_a, .inl (cJ, 499, .inr (.inl v_a)))] [.int x1] [.ref h_t_] (k_X11_areCuts l D cI cJ cZ cO z h_t_ h_a h_fresh h_kept h_buffer h_worthFrom h_cutsFrom h_endFrom h_changes h_waysFrom h_costAt h_places h_isCut h_written x1 v_keptMany v_thrown v_buffered v_size v_at v_behind v_kind v_wrong v_wrongAt v_errorAt v_number v_toCut v_toLeave v_writtenMany v_a r_15 hc_) gX11_worthOf_X11_areCuts rfl ⟨rfl, rfl⟩ hy_X11_areCuts ⟨Nat.le_of_ble_eq_true rfl, Nat.le_of_ble_eq_true rfl⟩ rfl rfl rfl (q0 := 0) rfl rfl rfl (Nat.le_of_ble_eq_true rfl) rfl dX11_worthOf_3 rfl rfl ?_
  refine gq_if_eq hC 13 dX11_worthOf_6 (by decide) (fun hc_16 => ?_) (fun hc_16 => ?_)
  · have hF := (if_pos hc_16).symm.trans hF
    refine gq_iconst hC (1 : Int32) dX11_worthOf_13 (by decide) ?_
    exact jb14 (1 : Int32) v_thrown hF
  · have hF := (if_neg hc_16).symm.trans hF
    refine gq_iconst hC (0 : Int32) dX11_worthOf_9 (by decide) ?_
    refine gq_goto hC 14 dX11_worthOf_10 (by decide) ?_
    exact jb14 (0 : Int32) v_thrown hF
theorem hy_X11_isAllowed : yX11_isAllowed.cls = RX11 ∧ yX11_isAllowed.cls ≠ "java/lang/invoke/MethodHandle" ∧ yX11_isAllowed.cls ≠ "java/lang/invoke/VarHandle" ∧ (parseMethodDescriptor yX11_isAllowed.desc).map (fun d => d.parameters.length) = some 1 := by decide +kernel
set_option maxRecDepth 20000 in
set_option maxHeartbeats 4000000 in
theorem k_X11_isAllowed (l : Launch) (D : va_G) (cI cJ cZ cO : ClassId) (z : Nat → Nat)   (h_t_ : Nat) (h_a : Nat) (h_fresh : Nat) (h_kept : Nat) (h_buffer : Nat) (h_worthFrom : Nat) (h_cutsFrom : Nat) (h_endFrom : Nat) (h_changes : Nat) (h_waysFrom : Nat) (h_costAt : Nat) (h_places : Nat) (h_isCut : Nat) (h_written : Nat) (x1 : Int32) (v_keptMany : Int32) (v_thrown : Int32) (v_buffered : Int32) (v_size : Int32) (v_at : Int32) (v_behind : Int32) (v_kind : Int32) (v_wrong : Int32) (v_wrongAt : Int32) (v_errorAt : Int32) (v_number : Int64) (v_toCut : Int32) (v_toLeave : Int32) (v_writtenMany : Int32) (v_a : Nat → Int64) (r_ : Int32) (w_thrown : Int32) (hF : F_X11_isAllowed x1 v_thrown v_toCut v_toLeave v_a = some (r_, w_thrown)) : Mi l yX11_isAllowed wsX11_isAllowed (rmD 3) D (gq_ty cI cJ cZ cO) z [.ref h_t_, .int x1] [(h_t_, .inr (11, [.ref h_a, .ref h_fresh, .ref h_kept, .int v_keptMany, .int v_thrown, .ref h_buffer, .int v_buffered, .int v_size, .int v_at, .int v_behind, .int v_kind, .int v_wrong, .int v_wrongAt, .int v_errorAt, .long v_number, .ref h_worthFrom, .ref h_cutsFrom, .ref h_endFrom, .ref h_changes, .ref h_waysFrom, .int v_toCut, .int v_toLeave, .ref h_costAt, .ref h_places, .ref h_isCut, .ref h_written, .int v_writtenMany])), (h_a, .inl (cJ, 499, .inr (.inl v_a)))] r_ [(h_t_, .inr (11, [.ref h_a, .ref h_fresh, .ref h_kept, .int v_keptMany, .int w_thrown, .ref h_buffer, .int v_buffered, .int v_size, .int v_at, .int v_behind, .int v_kind, .int v_wrong, .int v_wrongAt, .int v_errorAt, .long v_number, .ref h_worthFrom, .ref h_cutsFrom, .ref h_endFrom, .ref h_changes, .ref h_waysFrom, .int v_toCut, .int v_toLeave, .ref h_costAt, .ref h_places, .ref h_isCut, .ref h_written, .int v_writtenMany])), (h_a, .inl (cJ, 499, .inr (.inl v_a)))] 0 0 := by
  refine Mi.of (cc := cX11_isAllowed) (maxL := 4) (by decide) rfl (Nat.le_of_ble_eq_true rfl) ⟨Nat.le_refl 0, Nat.le_refl 0⟩ ?_
  intro p e s m args below meth c A hC ha
  have hin_X11 : ∀ w ∈ wsX110, w ∈ wsX11_isAllowed := by decide +kernel
  have hw_79 : Cond.fieldLink RX11 79 (TX11 4).1 (TX11 4).2.1 (TX11 4).2.2.1 ∈ wsX11_isAllowed := by decide +kernel
  obtain ⟨Q, hQ⟩ : ∃ Q, Q = gq_Qi below D A args s r_ [(h_t_, .inr (11, [.ref h_a, .ref h_fresh, .ref h_kept, .int v_keptMany, .int w_thrown, .ref h_buffer, .int v_buffered, .int v_size, .int v_at, .int v_behind, .int v_kind, .int v_wrong, .int v_wrongAt, .int v_errorAt, .long v_number, .ref h_worthFrom, .ref h_cutsFrom, .ref h_endFrom, .ref h_changes, .ref h_waysFrom, .int v_toCut, .int v_toLeave, .ref h_costAt, .ref h_places, .ref h_isCut, .ref h_written, .int v_writtenMany])), (h_a, .inl (cJ, 499, .inr (.inl v_a)))] 0 0 := ⟨_, rfl⟩
  rw [← hQ]
  refine gq_loc [(0, .ref h_t_), (1, .int x1)] rfl ?_
  have jb14 : ∀ (st_1 : Int32) (v_thrown_2 : Int32), F_X11_isAllowed_b14 x1 st_1 v_thrown_2 v_toCut v_toLeave v_a = some (r_, w_thrown) → Gx p l e (rmD 3) s m args below meth c D A 4 Q 0 0 14 [(0, .ref h_t_), (1, .int x1)] [.int st_1, .ref h_t_] [(h_t_, .inr (11, [.ref h_a, .ref h_fresh, .ref h_kept, .int v_keptMany, .int v_thrown_2, .ref h_buffer, .int v_buffered, .int v_size, .int v_at, .int v_behind, .int v_kind, .int v_wrong, .int v_wrongAt, .int v_errorAt, .long v_number, .ref h_worthFrom, .ref h_cutsFrom, .ref h_endFrom, .ref h_changes, .ref h_waysFrom, .int v_toCut, .int v_toLeave, .ref h_costAt, .ref h_places, .ref h_isCut, .ref h_written, .int v_writtenMany])), (h_a, .inl (cJ, 499, .inr (.inl v_a)))] := by
    intro st_1 v_thrown_2 hF
    unfold F_X11_isAllowed_b14 at hF
    refine gq_put1 hC (kf := 4) 0 [(h_t_, .inr (11, [.ref h_a, .ref h_fresh, .ref h_kept, .int v_keptMany, .int st_1, .ref h_buffer, .int v_buffered, .int v_size, .int v_at, .int v_behind, .int v_kind, .int v_wrong, .int v_wrongAt, .int v_errorAt, .long v_number, .ref h_worthFrom, .ref h_cutsFrom, .ref h_endFrom, .ref h_changes, .ref h_waysFrom, .int v_toCut, .int v_toLeave, .ref h_costAt, .ref h_places, .ref h_isCut, .ref h_written, .int v_writtenMany])), (h_a, .inl (cJ, 499, .inr (.inl v_a)))] tyX11 tyX11_ok nmX11 hin_X11 rfl rfl (by decide) hw_79 rfl rfl rfl (Nat.le_of_ble_eq_true rfl) dX11_isAllowed_14 rfl ?_
    refine gq_aload_n hC 0 dX11_isAllowed_17 rfl rfl ?_
    refine gq_get hC (kf := 4) 0 hin_X11 rfl rfl (by decide) hw_79 rfl dX11_isAllowed_18 ?_
    refine gq_if_gt hC 31 dX11_isAllowed_21 (by decide) (fun hc_20 => ?_) (fun hc_20 => ?_)
    · have hF := (if_pos hc_20).symm.trans hF
      refine gq_iconst hC (0 : Int32) dX11_isAllowed_31 (by decide) ?_
      cases hF
      rw [hQ]
      exact gq_iret hC rfl dX11_isAllowed_32
    · have hF := (if_neg hc_20).symm.trans hF
      refine gq_aload_n hC 0 dX11_isAllowed_24 rfl rfl ?_
      obtain ⟨r_3, hc_, hF⟩ := ob1_e hF
      refine gq_callVi hC [0, 1] [(h_t_, .inr (11, [.ref h_a, .ref h_fresh, .ref h_kept, .int v_keptMany, .int st_1, .ref h_buffer, .int v_buffered, .int v_size, .int v_at, .int v_behind, .int v_kind, .int v_wrong, .int v_wrongAt, .int v_errorAt, .long v_number, .ref h_worthFrom, .ref h_cutsFrom, .ref h_endFrom, .ref h_changes, .ref h_waysFrom, .int v_toCut, .int v_toLeave, .ref h_costAt, .ref h_places, .ref h_isCut, .ref h_written, .int v_writtenMany])), (h_a, .inl (cJ, 499, .inr (.inl v_a)))] [] [] (k_X11_many l D cI cJ cZ cO z h_t_ h_a h_fresh h_kept h_buffer h_worthFrom h_cutsFrom h_endFrom h_changes h_waysFrom h_costAt h_places h_isCut h_written v_keptMany st_1 v_buffered v_size v_at v_behind v_kind v_wrong v_wrongAt v_errorAt v_number v_toCut v_toLeave v_writtenMany v_a r_3 hc_) gX11_isAllowed_X11_many rfl ⟨rfl, rfl⟩ hy_X11_many ⟨Nat.le_of_ble_eq_true rfl, Nat.le_of_ble_eq_true rfl⟩ rfl rfl rfl (q0 := 0) rfl rfl rfl (Nat.le_of_ble_eq_true rfl) rfl dX11_isAllowed_25 rfl rfl ?_
      refine gq_if_ne hC 33 dX11_isAllowed_28 (by decide) (fun hc_19 => ?_) (fun hc_19 => ?_)
      · have hF := (if_neg hc_19).symm.trans hF
        refine gq_iconst hC (0 : Int32) dX11_isAllowed_33 (by decide) ?_
        refine gq_istore_n hC [(2, .int (0 : Int32)), (0, .ref h_t_), (1, .int x1)] dX11_isAllowed_34 rfl (by decide) rfl ?_
        refine gq_iconst hC (0 : Int32) dX11_isAllowed_35 (by decide) ?_
        refine gq_istore_n hC [(3, .int (0 : Int32)), (2, .int (0 : Int32)), (0, .ref h_t_), (1, .int x1)] dX11_isAllowed_36 rfl (by decide) rfl ?_
        have lp37 : ∀ (v_thrown_6 : Int32), ∀ (out_ : (Unit) ⊕ (Unit)), (out_ = .inl () → Gx p l e (rmD 3) s m args below meth c D A 4 Q 0 0 75 [] [] [(h_t_, .inr (11, [.ref h_a, .ref h_fresh, .ref h_kept, .int v_keptMany, .int v_thrown_6, .ref h_buffer, .int v_buffered, .int v_size, .int v_at, .int v_behind, .int v_kind, .int v_wrong, .int v_wrongAt, .int v_errorAt, .long v_number, .ref h_worthFrom, .ref h_cutsFrom, .ref h_endFrom, .ref h_changes, .ref h_waysFrom, .int v_toCut, .int v_toLeave, .ref h_costAt, .ref h_places, .ref h_isCut, .ref h_written, .int v_writtenMany])), (h_a, .inl (cJ, 499, .inr (.inl v_a)))]) → (out_ = .inr () → Gx p l e (rmD 3) s m args below meth c D A 4 Q 0 0 87 [] [] [(h_t_, .inr (11, [.ref h_a, .ref h_fresh, .ref h_kept, .int v_keptMany, .int v_thrown_6, .ref h_buffer, .int v_buffered, .int v_size, .int v_at, .int v_behind, .int v_kind, .int v_wrong, .int v_wrongAt, .int v_errorAt, .long v_number, .ref h_worthFrom, .ref h_cutsFrom, .ref h_endFrom, .ref h_changes, .ref h_waysFrom, .int v_toCut, .int v_toLeave, .ref h_costAt, .ref h_places, .ref h_isCut, .ref h_written, .int v_writtenMany])), (h_a, .inl (cJ, 499, .inr (.inl v_a)))]) → ∀ (N : Nat) (l2_4 : Int32) (l3_5 : Int32), wh (fun k q => S_X11_isAllowed_37 x1 v_thrown_6 v_toCut v_toLeave v_a k q.1 q.2) N (l2_4, l3_5) = some out_ → Gx p l e (rmD 3) s m args below meth c D A 4 Q 0 0 37 [(0, .ref h_t_), (1, .int x1), (2, .int l2_4), (3, .int l3_5)] [] [(h_t_, .inr (11, [.ref h_a, .ref h_fresh, .ref h_kept, .int v_keptMany, .int v_thrown_6, .ref h_buffer, .int v_buffered, .int v_size, .int v_at, .int v_behind, .int v_kind, .int v_wrong, .int v_wrongAt, .int v_errorAt, .long v_number, .ref h_worthFrom, .ref h_cutsFrom, .ref h_endFrom, .ref h_changes, .ref h_waysFrom, .int v_toCut, .int v_toLeave, .ref h_costAt, .ref h_places, .ref h_isCut, .ref h_written, .int v_writtenMany])), (h_a, .inl (cJ, 499, .inr (.inl v_a)))] := by
          intro v_thrown_6 out_ hx0 hx1 N
          induction N with
          | zero => intro l2_4 l3_5 hw; exact absurd hw (wh_0 _ _ _)
          | succ N ih =>
            have jb66 : ∀ (l2_7 : Int32) (l3_8 : Int32), F_X11_isAllowed_b66 (wh (fun k q => S_X11_isAllowed_37 x1 v_thrown_6 v_toCut v_toLeave v_a k q.1 q.2) N) x1 l2_7 l3_8 v_thrown_6 v_toCut v_toLeave v_a = some out_ → Gx p l e (rmD 3) s m args below meth c D A 4 Q 0 0 66 [(0, .ref h_t_), (1, .int x1), (2, .int l2_7), (3, .int l3_8)] [] [(h_t_, .inr (11, [.ref h_a, .ref h_fresh, .ref h_kept, .int v_keptMany, .int v_thrown_6, .ref h_buffer, .int v_buffered, .int v_size, .int v_at, .int v_behind, .int v_kind, .int v_wrong, .int v_wrongAt, .int v_errorAt, .long v_number, .ref h_worthFrom, .ref h_cutsFrom, .ref h_endFrom, .ref h_changes, .ref h_waysFrom, .int v_toCut, .int v_toLeave, .ref h_costAt, .ref h_places, .ref h_isCut, .ref h_written, .int v_writtenMany])), (h_a, .inl (cJ, 499, .inr (.inl v_a)))] := by
              intro l2_7 l3_8 hF
              unfold F_X11_isAllowed_b66 at hF
              refine gq_aload_n hC 0 dX11_isAllowed_66 rfl rfl ?_
              refine gq_iload_n hC 2 dX11_isAllowed_67 rfl rfl ?_
              refine gq_iload_n hC 3 dX11_isAllowed_68 rfl rfl ?_
              obtain ⟨r_9, hc_, hF⟩ := ob1_e hF
              refine gq_callVi hC [0, 1] [(h_t_, .inr (11, [.ref h_a, .ref h_fresh, .ref h_kept, .int v_keptMany, .int v_thrown_6, .ref h_buffer, .int v_buffered, .int v_size, .int v_at, .int v_behind, .int v_kind, .int v_wrong, .int v_wrongAt, .int v_errorAt, .long v_number, .ref h_worthFrom, .ref h_cutsFrom, .ref h_endFrom, .ref h_changes, .ref h_waysFrom, .int v_toCut, .int v_toLeave, .ref h_costAt, .ref h_places, .ref h_isCut, .ref h_written, .int v_writtenMany])), (h_a, .inl (cJ, 499, .inr (.inl v_a)))] [.int l2_7, .int l3_8] [] (k_X11_isChapter l D cI cJ cZ cO z h_t_ h_a h_fresh h_kept h_buffer h_worthFrom h_cutsFrom h_endFrom h_changes h_waysFrom h_costAt h_places h_isCut h_written l2_7 l3_8 v_keptMany v_thrown_6 v_buffered v_size v_at v_behind v_kind v_wrong v_wrongAt v_errorAt v_number v_toCut v_toLeave v_writtenMany v_a r_9 hc_) gX11_isAllowed_X11_isChapter rfl ⟨rfl, rfl⟩ hy_X11_isChapter ⟨Nat.le_of_ble_eq_true rfl, Nat.le_of_ble_eq_true rfl⟩ rfl rfl rfl (q0 := 0) rfl rfl rfl (Nat.le_of_ble_eq_true rfl) rfl dX11_isAllowed_69 rfl rfl ?_
              refine gq_if_ne hC 77 dX11_isAllowed_72 (by decide) (fun hc_10 => ?_) (fun hc_10 => ?_)
              · have hF := (if_neg hc_10).symm.trans hF
                refine gq_iload_n hC 3 dX11_isAllowed_77 rfl rfl ?_
                refine gq_iconst hC (1 : Int32) dX11_isAllowed_78 (by decide) ?_
                refine gq_iadd hC dX11_isAllowed_79 ?_
                refine gq_istore_n hC [(2, .int (l3_8 + (1 : Int32))), (0, .ref h_t_), (1, .int x1), (3, .int l3_8)] dX11_isAllowed_80 rfl (by decide) rfl ?_
                refine gq_iinc hC 3 (l3_8 + (1 : Int32)) [(3, .int (l3_8 + (1 : Int32))), (2, .int (l3_8 + (1 : Int32))), (0, .ref h_t_), (1, .int x1)] dX11_isAllowed_81 rfl rfl (by decide) rfl ?_
                refine gq_goto hC 37 dX11_isAllowed_84 (by decide) ?_
                refine gq_sub [(0, .ref h_t_), (1, .int x1), (2, .int (l3_8 + (1 : Int32))), (3, .int (l3_8 + (1 : Int32)))] [2, 3, 1, 0] rfl ?_
                exact ih (l3_8 + (1 : Int32)) (l3_8 + (1 : Int32)) hF
              · have hF := (if_pos hc_10).symm.trans hF
                refine gq_sub [] [] rfl ?_
                exact hx0  (Option.some.inj hF).symm
            intro l2_4 l3_5 hw
            have hF : S_X11_isAllowed_37 x1 v_thrown_6 v_toCut v_toLeave v_a (wh (fun k q => S_X11_isAllowed_37 x1 v_thrown_6 v_toCut v_toLeave v_a k q.1 q.2) N) l2_4 l3_5 = some out_ := hw
            unfold S_X11_isAllowed_37 at hF
            refine gq_iload_n hC 3 dX11_isAllowed_37 rfl rfl ?_
            refine gq_aload_n hC 0 dX11_isAllowed_38 rfl rfl ?_
            obtain ⟨r_11, hc_, hF⟩ := ob1_e hF
            refine gq_callVi hC [0, 1] [(h_t_, .inr (11, [.ref h_a, .ref h_fresh, .ref h_kept, .int v_keptMany, .int v_thrown_6, .ref h_buffer, .int v_buffered, .int v_size, .int v_at, .int v_behind, .int v_kind, .int v_wrong, .int v_wrongAt, .int v_errorAt, .long v_number, .ref h_worthFrom, .ref h_cutsFrom, .ref h_endFrom, .ref h_changes, .ref h_waysFrom, .int v_toCut, .int v_toLeave, .ref h_costAt, .ref h_places, .ref h_isCut, .ref h_written, .int v_writtenMany])), (h_a, .inl (cJ, 499, .inr (.inl v_a)))] [] [.int l3_5] (k_X11_many l D cI cJ cZ cO z h_t_ h_a h_fresh h_kept h_buffer h_worthFrom h_cutsFrom h_endFrom h_changes h_waysFrom h_costAt h_places h_isCut h_written v_keptMany v_thrown_6 v_buffered v_size v_at v_behind v_kind v_wrong v_wrongAt v_errorAt v_number v_toCut v_toLeave v_writtenMany v_a r_11 hc_) gX11_isAllowed_X11_many rfl ⟨rfl, rfl⟩ hy_X11_many ⟨Nat.le_of_ble_eq_true rfl, Nat.le_of_ble_eq_true rfl⟩ rfl rfl rfl (q0 := 0) rfl rfl rfl (Nat.le_of_ble_eq_true rfl) rfl dX11_isAllowed_39 rfl rfl ?_
            refine gq_icmp_ge hC 87 dX11_isAllowed_42 (by decide) (fun hc_16 => ?_) (fun hc_16 => ?_)
            · have hF := (if_pos hc_16).symm.trans hF
              refine gq_sub [] [] rfl ?_
              exact hx1  (Option.some.inj hF).symm
            · have hF := (if_neg hc_16).symm.trans hF
              refine gq_iload_n hC 3 dX11_isAllowed_45 rfl rfl ?_
              refine gq_aload_n hC 0 dX11_isAllowed_46 rfl rfl ?_
              obtain ⟨r_12, hc_, hF⟩ := ob1_e hF
              refine gq_callVi hC [0, 1] [(h_t_, .inr (11, [.ref h_a, .ref h_fresh, .ref h_kept, .int v_keptMany, .int v_thrown_6, .ref h_buffer, .int v_buffered, .int v_size, .int v_at, .int v_behind, .int v_kind, .int v_wrong, .int v_wrongAt, .int v_errorAt, .long v_number, .ref h_worthFrom, .ref h_cutsFrom, .ref h_endFrom, .ref h_changes, .ref h_waysFrom, .int v_toCut, .int v_toLeave, .ref h_costAt, .ref h_places, .ref h_isCut, .ref h_written, .int v_writtenMany])), (h_a, .inl (cJ, 499, .inr (.inl v_a)))] [] [.int l3_5] (k_X11_many l D cI cJ cZ cO z h_t_ h_a h_fresh h_kept h_buffer h_worthFrom h_cutsFrom h_endFrom h_changes h_waysFrom h_costAt h_places h_isCut h_written v_keptMany v_thrown_6 v_buffered v_size v_at v_behind v_kind v_wrong v_wrongAt v_errorAt v_number v_toCut v_toLeave v_writtenMany v_a r_12 hc_) gX11_isAllowed_X11_many rfl ⟨rfl, rfl⟩ hy_X11_many ⟨Nat.le_of_ble_eq_true rfl, Nat.le_of_ble_eq_true rfl⟩ rfl rfl rfl (q0 := 0) rfl rfl rfl (Nat.le_of_ble_eq_true rfl) rfl dX11_isAllowed_47 rfl rfl ?_
              refine gq_iconst hC (1 : Int32) dX11_isAllowed_50 (by decide) ?_
              refine gq_isub hC dX11_isAllowed_51 ?_
              refine gq_icmp_ge hC 66 dX11_isAllowed_52 (by decide) (fun hc_15 => ?_) (fun hc_15 => ?_)
              · have hF := (if_pos hc_15).symm.trans hF
                exact jb66 l2_4 l3_5 hF
              · have hF := (if_neg hc_15).symm.trans hF
                refine gq_iload_n hC 1 dX11_isAllowed_55 rfl rfl ?_
                refine gq_iload_n hC 3 dX11_isAllowed_56 rfl rfl ?_
                obtain ⟨r_13, hc_, hF⟩ := ob1_e hF
                refine gq_callSi hC [] [(h_t_, .inr (11, [.ref h_a, .ref h_fresh, .ref h_kept, .int v_keptMany, .int v_thrown_6, .ref h_buffer, .int v_buffered, .int v_size, .int v_at, .int v_behind, .int v_kind, .int v_wrong, .int v_wrongAt, .int v_errorAt, .long v_number, .ref h_worthFrom, .ref h_cutsFrom, .ref h_endFrom, .ref h_changes, .ref h_waysFrom, .int v_toCut, .int v_toLeave, .ref h_costAt, .ref h_places, .ref h_isCut, .ref h_written, .int v_writtenMany])), (h_a, .inl (cJ, 499, .inr (.inl v_a)))] [.int x1, .int l3_5] [] (k_X11_has l D cI cJ cZ cO z  x1 l3_5 r_13 hc_) gX11_isAllowed_X11_has rfl ⟨rfl, rfl⟩ hy_X11_has rfl ⟨Nat.le_of_ble_eq_true rfl, Nat.le_of_ble_eq_true rfl⟩ rfl rfl rfl (Nat.le_of_ble_eq_true rfl) rfl dX11_isAllowed_57 rfl rfl ?_
                refine gq_if_ne hC 66 dX11_isAllowed_60 (by decide) (fun hc_14 => ?_) (fun hc_14 => ?_)
                · have hF := (if_neg hc_14).symm.trans hF
                  exact jb66 l2_4 l3_5 hF
                · have hF := (if_pos hc_14).symm.trans hF
                  refine gq_goto hC 81 dX11_isAllowed_63 (by decide) ?_
                  refine gq_iinc hC 3 (l3_5 + (1 : Int32)) [(3, .int (l3_5 + (1 : Int32))), (0, .ref h_t_), (1, .int x1), (2, .int l2_4)] dX11_isAllowed_81 rfl rfl (by decide) rfl ?_
                  refine gq_goto hC 37 dX11_isAllowed_84 (by decide) ?_
                  refine gq_sub [(0, .ref h_t_), (1, .int x1), (2, .int l2_4), (3, .int (l3_5 + (1 : Int32)))] [1, 2, 3, 0] rfl ?_
                  exact ih l2_4 (l3_5 + (1 : Int32)) hF
        refine gq_sub [(0, .ref h_t_), (1, .int x1), (2, .int (0 : Int32)), (3, .int (0 : Int32))] [2, 3, 1, 0] rfl ?_
        obtain ⟨o_, hw_, hF⟩ := ob1_e hF
        refine lp37 st_1 o_ ?_ ?_ wF (0 : Int32) (0 : Int32) hw_
        · intro  ho_17
          subst ho_17
          have hF : (some ((0 : Int32), st_1)) = some _ := hF
          refine gq_iconst hC (0 : Int32) dX11_isAllowed_75 (by decide) ?_
          cases hF
          rw [hQ]
          exact gq_iret hC rfl dX11_isAllowed_76
        · intro  ho_18
          subst ho_18
          have hF : (some ((1 : Int32), st_1)) = some _ := hF
          refine gq_iconst hC (1 : Int32) dX11_isAllowed_87 (by decide) ?_
          cases hF
          rw [hQ]
          exact gq_iret hC rfl dX11_isAllowed_88
      · have hF := (if_pos hc_19).symm.trans hF
        refine gq_iconst hC (0 : Int32) dX11_isAllowed_31 (by decide) ?_
        cases hF
        rw [hQ]
        exact gq_iret hC rfl dX11_isAllowed_32
  unfold F_X11_isAllowed at hF
  refine gq_aload_n hC 0 dX11_isAllowed_0 rfl rfl ?_
  refine gq_aload_n hC 0 dX11_isAllowed_1 rfl rfl ?_
  refine gq_iload_n hC 1 dX11_isAllowed_2 rfl rfl ?_
  obtain ⟨r_21, hc_, hF⟩ := ob1_e hF
  refine gq_callVi hC [0, 1] [(h_t_, .inr (11, [.ref h_a, .ref h_fresh, .ref h_kept, .int v_keptMany, .int v_thrown, .ref h_buffer, .int v_buffered, .int v_size, .int v_at, .int v_behind, .int v_kind, .int v_wrong, .int v_wrongAt, .int v_errorAt, .long v_number, .ref h_worthFrom, .ref h_cutsFrom, .ref h_endFrom, .ref h_changes, .ref h_waysFrom, .int v_toCut, .int v_toLeave, .ref h_costAt, .ref h_places, .ref h_isCut, .ref h_written, .int v_writtenMany])), (h_a, .inl (cJ, 499, .inr (.inl v_a)))] [.int x1] [.ref h_t_] (k_X11_areCuts l D cI cJ cZ cO z h_t_ h_a h_fresh h_kept h_buffer h_worthFrom h_cutsFrom h_endFrom h_changes h_waysFrom h_costAt h_places h_isCut h_written x1 v_keptMany v_thrown v_buffered v_size v_at v_behind v_kind v_wrong v_wrongAt v_errorAt v_number v_toCut v_toLeave v_writtenMany v_a r_21 hc_) gX11_isAllowed_X11_areCuts rfl ⟨rfl, rfl⟩ hy_X11_areCuts ⟨Nat.le_of_ble_eq_true rfl, Nat.le_of_ble_eq_true rfl⟩ rfl rfl rfl (q0 := 0) rfl rfl rfl (Nat.le_of_ble_eq_true rfl) rfl dX11_isAllowed_3 rfl rfl ?_
  refine gq_if_eq hC 13 dX11_isAllowed_6 (by decide) (fun hc_22 => ?_) (fun hc_22 => ?_)
  · have hF := (if_pos hc_22).symm.trans hF
    refine gq_iconst hC (1 : Int32) dX11_isAllowed_13 (by decide) ?_
    exact jb14 (1 : Int32) v_thrown hF
  · have hF := (if_neg hc_22).symm.trans hF
    refine gq_iconst hC (0 : Int32) dX11_isAllowed_9 (by decide) ?_
    refine gq_goto hC 14 dX11_isAllowed_10 (by decide) ?_
    exact jb14 (0 : Int32) v_thrown hF
theorem hy_X11_divisions : yX11_divisions.cls = RX11 ∧ yX11_divisions.cls ≠ "java/lang/invoke/MethodHandle" ∧ yX11_divisions.cls ≠ "java/lang/invoke/VarHandle" ∧ (parseMethodDescriptor yX11_divisions.desc).map (fun d => d.parameters.length) = some 0 := by decide +kernel
set_option maxRecDepth 20000 in
set_option maxHeartbeats 4000000 in
theorem k_X11_divisions (l : Launch) (D : va_G) (cI cJ cZ cO : ClassId) (z : Nat → Nat)   (h_t_ : Nat) (h_a : Nat) (h_worthFrom : Nat) (h_cutsFrom : Nat) (h_endFrom : Nat) (h_changes : Nat) (h_waysFrom : Nat) (h_fresh : Nat) (h_kept : Nat) (h_buffer : Nat) (h_costAt : Nat) (h_places : Nat) (h_isCut : Nat) (h_written : Nat)  (v_keptMany : Int32) (v_thrown : Int32) (v_buffered : Int32) (v_size : Int32) (v_at : Int32) (v_behind : Int32) (v_kind : Int32) (v_wrong : Int32) (v_wrongAt : Int32) (v_errorAt : Int32) (v_number : Int64) (v_toCut : Int32) (v_toLeave : Int32) (v_writtenMany : Int32) (v_a : Nat → Int64) (v_worthFrom : Nat → Int32) (v_cutsFrom : Nat → Int32) (v_endFrom : Nat → Int32) (v_changes : Nat → Int32) (v_waysFrom : Nat → Int64) (r_ : Int64) (w_thrown : Int32) (w_worthFrom : Nat → Int32) (w_cutsFrom : Nat → Int32) (w_endFrom : Nat → Int32) (w_changes : Nat → Int32) (w_waysFrom : Nat → Int64) (hF : F_X11_divisions v_thrown v_toCut v_toLeave v_a v_worthFrom v_cutsFrom v_endFrom v_changes v_waysFrom = some (r_, w_thrown, w_worthFrom, w_cutsFrom, w_endFrom, w_changes, w_waysFrom)) : Ml l yX11_divisions wsX11_divisions (rmD 5) D (gq_ty cI cJ cZ cO) z [.ref h_t_] [(h_t_, .inr (11, [.ref h_a, .ref h_fresh, .ref h_kept, .int v_keptMany, .int v_thrown, .ref h_buffer, .int v_buffered, .int v_size, .int v_at, .int v_behind, .int v_kind, .int v_wrong, .int v_wrongAt, .int v_errorAt, .long v_number, .ref h_worthFrom, .ref h_cutsFrom, .ref h_endFrom, .ref h_changes, .ref h_waysFrom, .int v_toCut, .int v_toLeave, .ref h_costAt, .ref h_places, .ref h_isCut, .ref h_written, .int v_writtenMany])), (h_a, .inl (cJ, 499, .inr (.inl v_a))), (h_worthFrom, .inl (cI, 33, .inl v_worthFrom)), (h_cutsFrom, .inl (cI, 33, .inl v_cutsFrom)), (h_endFrom, .inl (cI, 33, .inl v_endFrom)), (h_changes, .inl (cI, 32, .inl v_changes)), (h_waysFrom, .inl (cJ, 33, .inr (.inl v_waysFrom)))] r_ [(h_t_, .inr (11, [.ref h_a, .ref h_fresh, .ref h_kept, .int v_keptMany, .int w_thrown, .ref h_buffer, .int v_buffered, .int v_size, .int v_at, .int v_behind, .int v_kind, .int v_wrong, .int v_wrongAt, .int v_errorAt, .long v_number, .ref h_worthFrom, .ref h_cutsFrom, .ref h_endFrom, .ref h_changes, .ref h_waysFrom, .int v_toCut, .int v_toLeave, .ref h_costAt, .ref h_places, .ref h_isCut, .ref h_written, .int v_writtenMany])), (h_a, .inl (cJ, 499, .inr (.inl v_a))), (h_worthFrom, .inl (cI, 33, .inl w_worthFrom)), (h_cutsFrom, .inl (cI, 33, .inl w_cutsFrom)), (h_endFrom, .inl (cI, 33, .inl w_endFrom)), (h_changes, .inl (cI, 32, .inl w_changes)), (h_waysFrom, .inl (cJ, 33, .inr (.inl w_waysFrom)))] 0 0 := by
  refine Ml.of (cc := cX11_divisions) (maxL := 1) (by decide) rfl (Nat.le_of_ble_eq_true rfl) ⟨Nat.le_refl 0, Nat.le_refl 0⟩ ?_
  intro p e s m args below meth c A hC ha
  have hin_X11 : ∀ w ∈ wsX110, w ∈ wsX11_divisions := by decide +kernel
  have hw_39 : Cond.fieldLink RX11 39 (TX11 19).1 (TX11 19).2.1 (TX11 19).2.2.1 ∈ wsX11_divisions := by decide +kernel
  have hw_79 : Cond.fieldLink RX11 79 (TX11 4).1 (TX11 4).2.1 (TX11 4).2.2.1 ∈ wsX11_divisions := by decide +kernel
  obtain ⟨Q, hQ⟩ : ∃ Q, Q = gq_Ql below D A args s r_ [(h_t_, .inr (11, [.ref h_a, .ref h_fresh, .ref h_kept, .int v_keptMany, .int w_thrown, .ref h_buffer, .int v_buffered, .int v_size, .int v_at, .int v_behind, .int v_kind, .int v_wrong, .int v_wrongAt, .int v_errorAt, .long v_number, .ref h_worthFrom, .ref h_cutsFrom, .ref h_endFrom, .ref h_changes, .ref h_waysFrom, .int v_toCut, .int v_toLeave, .ref h_costAt, .ref h_places, .ref h_isCut, .ref h_written, .int v_writtenMany])), (h_a, .inl (cJ, 499, .inr (.inl v_a))), (h_worthFrom, .inl (cI, 33, .inl w_worthFrom)), (h_cutsFrom, .inl (cI, 33, .inl w_cutsFrom)), (h_endFrom, .inl (cI, 33, .inl w_endFrom)), (h_changes, .inl (cI, 32, .inl w_changes)), (h_waysFrom, .inl (cJ, 33, .inr (.inl w_waysFrom)))] 0 0 := ⟨_, rfl⟩
  rw [← hQ]
  refine gq_loc [(0, .ref h_t_)] rfl ?_
  unfold F_X11_divisions at hF
  refine gq_aload_n hC 0 dX11_divisions_0 rfl rfl ?_
  refine gq_iconst hC (0 : Int32) dX11_divisions_1 (by decide) ?_
  refine gq_put1 hC (kf := 4) 0 [(h_t_, .inr (11, [.ref h_a, .ref h_fresh, .ref h_kept, .int v_keptMany, .int (0 : Int32), .ref h_buffer, .int v_buffered, .int v_size, .int v_at, .int v_behind, .int v_kind, .int v_wrong, .int v_wrongAt, .int v_errorAt, .long v_number, .ref h_worthFrom, .ref h_cutsFrom, .ref h_endFrom, .ref h_changes, .ref h_waysFrom, .int v_toCut, .int v_toLeave, .ref h_costAt, .ref h_places, .ref h_isCut, .ref h_written, .int v_writtenMany])), (h_a, .inl (cJ, 499, .inr (.inl v_a))), (h_worthFrom, .inl (cI, 33, .inl v_worthFrom)), (h_cutsFrom, .inl (cI, 33, .inl v_cutsFrom)), (h_endFrom, .inl (cI, 33, .inl v_endFrom)), (h_changes, .inl (cI, 32, .inl v_changes)), (h_waysFrom, .inl (cJ, 33, .inr (.inl v_waysFrom)))] tyX11 tyX11_ok nmX11 hin_X11 rfl rfl (by decide) hw_79 rfl rfl rfl (Nat.le_of_ble_eq_true rfl) dX11_divisions_2 rfl ?_
  refine gq_aload_n hC 0 dX11_divisions_5 rfl rfl ?_
  obtain ⟨v_worthFrom_1, v_cutsFrom_2, v_endFrom_3, v_changes_4, v_waysFrom_5, hc_, hF⟩ := ob5_e hF
  refine gq_callVv hC [0, 1, 2, 3, 4, 5, 6] [(h_t_, .inr (11, [.ref h_a, .ref h_fresh, .ref h_kept, .int v_keptMany, .int (0 : Int32), .ref h_buffer, .int v_buffered, .int v_size, .int v_at, .int v_behind, .int v_kind, .int v_wrong, .int v_wrongAt, .int v_errorAt, .long v_number, .ref h_worthFrom, .ref h_cutsFrom, .ref h_endFrom, .ref h_changes, .ref h_waysFrom, .int v_toCut, .int v_toLeave, .ref h_costAt, .ref h_places, .ref h_isCut, .ref h_written, .int v_writtenMany])), (h_a, .inl (cJ, 499, .inr (.inl v_a))), (h_worthFrom, .inl (cI, 33, .inl v_worthFrom_1)), (h_cutsFrom, .inl (cI, 33, .inl v_cutsFrom_2)), (h_endFrom, .inl (cI, 33, .inl v_endFrom_3)), (h_changes, .inl (cI, 32, .inl v_changes_4)), (h_waysFrom, .inl (cJ, 33, .inr (.inl v_waysFrom_5)))] [] [] (k_X11_laysDivisions l D cI cJ cZ cO z h_t_ h_a h_worthFrom h_cutsFrom h_endFrom h_changes h_waysFrom h_fresh h_kept h_buffer h_costAt h_places h_isCut h_written v_keptMany (0 : Int32) v_buffered v_size v_at v_behind v_kind v_wrong v_wrongAt v_errorAt v_number v_toCut v_toLeave v_writtenMany v_a v_worthFrom v_cutsFrom v_endFrom v_changes v_waysFrom v_worthFrom_1 v_cutsFrom_2 v_endFrom_3 v_changes_4 v_waysFrom_5 hc_) gX11_divisions_X11_laysDivisions rfl ⟨rfl, rfl⟩ hy_X11_laysDivisions ⟨Nat.le_of_ble_eq_true rfl, Nat.le_of_ble_eq_true rfl⟩ rfl rfl rfl (q0 := 0) rfl rfl rfl (Nat.le_of_ble_eq_true rfl) rfl dX11_divisions_6 rfl rfl ?_
  refine gq_aload_n hC 0 dX11_divisions_9 rfl rfl ?_
  obtain ⟨r_6, hc_, hF⟩ := ob1_e hF
  refine gq_callVi hC [0, 1] [(h_t_, .inr (11, [.ref h_a, .ref h_fresh, .ref h_kept, .int v_keptMany, .int (0 : Int32), .ref h_buffer, .int v_buffered, .int v_size, .int v_at, .int v_behind, .int v_kind, .int v_wrong, .int v_wrongAt, .int v_errorAt, .long v_number, .ref h_worthFrom, .ref h_cutsFrom, .ref h_endFrom, .ref h_changes, .ref h_waysFrom, .int v_toCut, .int v_toLeave, .ref h_costAt, .ref h_places, .ref h_isCut, .ref h_written, .int v_writtenMany])), (h_a, .inl (cJ, 499, .inr (.inl v_a))), (h_worthFrom, .inl (cI, 33, .inl v_worthFrom_1)), (h_cutsFrom, .inl (cI, 33, .inl v_cutsFrom_2)), (h_endFrom, .inl (cI, 33, .inl v_endFrom_3)), (h_changes, .inl (cI, 32, .inl v_changes_4)), (h_waysFrom, .inl (cJ, 33, .inr (.inl v_waysFrom_5)))] [] [] (k_X11_many l D cI cJ cZ cO z h_t_ h_a h_fresh h_kept h_buffer h_worthFrom h_cutsFrom h_endFrom h_changes h_waysFrom h_costAt h_places h_isCut h_written v_keptMany (0 : Int32) v_buffered v_size v_at v_behind v_kind v_wrong v_wrongAt v_errorAt v_number v_toCut v_toLeave v_writtenMany v_a r_6 hc_) gX11_divisions_X11_many rfl ⟨rfl, rfl⟩ hy_X11_many ⟨Nat.le_of_ble_eq_true rfl, Nat.le_of_ble_eq_true rfl⟩ rfl rfl rfl (q0 := 0) rfl rfl rfl (Nat.le_of_ble_eq_true rfl) rfl dX11_divisions_10 rfl rfl ?_
  refine gq_if_ne hC 20 dX11_divisions_13 (by decide) (fun hc_8 => ?_) (fun hc_8 => ?_)
  · have hF := (if_neg hc_8).symm.trans hF
    refine gq_aload_n hC 0 dX11_divisions_20 rfl rfl ?_
    refine gq_get hC (kf := 19) 0 hin_X11 rfl rfl (by decide) hw_39 rfl dX11_divisions_21 ?_
    refine gq_iconst hC (0 : Int32) dX11_divisions_24 (by decide) ?_
    obtain ⟨hi_7, hF⟩ := gi_e hF
    refine gq_lald hC 6 1 rfl rfl hi_7 dX11_divisions_25 ?_
    cases hF
    rw [hQ]
    exact gq_lret hC dX11_divisions_26
  · have hF := (if_pos hc_8).symm.trans hF
    refine gq_lconst hC (0 : Int64) dX11_divisions_16 (by decide) ?_
    refine gq_goto hC 26 dX11_divisions_17 (by decide) ?_
    cases hF
    rw [hQ]
    exact gq_lret hC dX11_divisions_26
theorem hy_X11_worthWith : yX11_worthWith.cls = RX11 ∧ yX11_worthWith.cls ≠ "java/lang/invoke/MethodHandle" ∧ yX11_worthWith.cls ≠ "java/lang/invoke/VarHandle" ∧ (parseMethodDescriptor yX11_worthWith.desc).map (fun d => d.parameters.length) = some 2 := by decide +kernel
set_option maxRecDepth 20000 in
set_option maxHeartbeats 4000000 in
theorem k_X11_worthWith (l : Launch) (D : va_G) (cI cJ cZ cO : ClassId) (z : Nat → Nat)   (h_t_ : Nat) (h_a : Nat) (h_worthFrom : Nat) (h_cutsFrom : Nat) (h_endFrom : Nat) (h_changes : Nat) (h_waysFrom : Nat) (h_fresh : Nat) (h_kept : Nat) (h_buffer : Nat) (h_costAt : Nat) (h_places : Nat) (h_isCut : Nat) (h_written : Nat) (x1 : Int32) (x2 : Int32) (v_keptMany : Int32) (v_thrown : Int32) (v_buffered : Int32) (v_size : Int32) (v_at : Int32) (v_behind : Int32) (v_kind : Int32) (v_wrong : Int32) (v_wrongAt : Int32) (v_errorAt : Int32) (v_number : Int64) (v_toCut : Int32) (v_toLeave : Int32) (v_writtenMany : Int32) (v_a : Nat → Int64) (v_worthFrom : Nat → Int32) (v_cutsFrom : Nat → Int32) (v_endFrom : Nat → Int32) (v_changes : Nat → Int32) (v_waysFrom : Nat → Int64) (r_ : Int32) (w_thrown : Int32) (w_toCut : Int32) (w_toLeave : Int32) (w_worthFrom : Nat → Int32) (w_cutsFrom : Nat → Int32) (w_endFrom : Nat → Int32) (w_changes : Nat → Int32) (w_waysFrom : Nat → Int64) (hF : F_X11_worthWith x1 x2 v_thrown v_toCut v_toLeave v_a v_worthFrom v_cutsFrom v_endFrom v_changes v_waysFrom = some (r_, w_thrown, w_toCut, w_toLeave, w_worthFrom, w_cutsFrom, w_endFrom, w_changes, w_waysFrom)) : Mi l yX11_worthWith wsX11_worthWith (rmD 6) D (gq_ty cI cJ cZ cO) z [.ref h_t_, .int x1, .int x2] [(h_t_, .inr (11, [.ref h_a, .ref h_fresh, .ref h_kept, .int v_keptMany, .int v_thrown, .ref h_buffer, .int v_buffered, .int v_size, .int v_at, .int v_behind, .int v_kind, .int v_wrong, .int v_wrongAt, .int v_errorAt, .long v_number, .ref h_worthFrom, .ref h_cutsFrom, .ref h_endFrom, .ref h_changes, .ref h_waysFrom, .int v_toCut, .int v_toLeave, .ref h_costAt, .ref h_places, .ref h_isCut, .ref h_written, .int v_writtenMany])), (h_a, .inl (cJ, 499, .inr (.inl v_a))), (h_worthFrom, .inl (cI, 33, .inl v_worthFrom)), (h_cutsFrom, .inl (cI, 33, .inl v_cutsFrom)), (h_endFrom, .inl (cI, 33, .inl v_endFrom)), (h_changes, .inl (cI, 32, .inl v_changes)), (h_waysFrom, .inl (cJ, 33, .inr (.inl v_waysFrom)))] r_ [(h_t_, .inr (11, [.ref h_a, .ref h_fresh, .ref h_kept, .int v_keptMany, .int w_thrown, .ref h_buffer, .int v_buffered, .int v_size, .int v_at, .int v_behind, .int v_kind, .int v_wrong, .int v_wrongAt, .int v_errorAt, .long v_number, .ref h_worthFrom, .ref h_cutsFrom, .ref h_endFrom, .ref h_changes, .ref h_waysFrom, .int w_toCut, .int w_toLeave, .ref h_costAt, .ref h_places, .ref h_isCut, .ref h_written, .int v_writtenMany])), (h_a, .inl (cJ, 499, .inr (.inl v_a))), (h_worthFrom, .inl (cI, 33, .inl w_worthFrom)), (h_cutsFrom, .inl (cI, 33, .inl w_cutsFrom)), (h_endFrom, .inl (cI, 33, .inl w_endFrom)), (h_changes, .inl (cI, 32, .inl w_changes)), (h_waysFrom, .inl (cJ, 33, .inr (.inl w_waysFrom)))] 0 0 := by
  refine Mi.of (cc := cX11_worthWith) (maxL := 3) (by decide) rfl (Nat.le_of_ble_eq_true rfl) ⟨Nat.le_refl 0, Nat.le_refl 0⟩ ?_
  intro p e s m args below meth c A hC ha
  have hin_X11 : ∀ w ∈ wsX110, w ∈ wsX11_worthWith := by decide +kernel
  have hw_27 : Cond.fieldLink RX11 27 (TX11 15).1 (TX11 15).2.1 (TX11 15).2.2.1 ∈ wsX11_worthWith := by decide +kernel
  have hw_42 : Cond.fieldLink RX11 42 (TX11 20).1 (TX11 20).2.1 (TX11 20).2.2.1 ∈ wsX11_worthWith := by decide +kernel
  have hw_45 : Cond.fieldLink RX11 45 (TX11 21).1 (TX11 21).2.1 (TX11 21).2.2.1 ∈ wsX11_worthWith := by decide +kernel
  have hw_79 : Cond.fieldLink RX11 79 (TX11 4).1 (TX11 4).2.1 (TX11 4).2.2.1 ∈ wsX11_worthWith := by decide +kernel
  obtain ⟨Q, hQ⟩ : ∃ Q, Q = gq_Qi below D A args s r_ [(h_t_, .inr (11, [.ref h_a, .ref h_fresh, .ref h_kept, .int v_keptMany, .int w_thrown, .ref h_buffer, .int v_buffered, .int v_size, .int v_at, .int v_behind, .int v_kind, .int v_wrong, .int v_wrongAt, .int v_errorAt, .long v_number, .ref h_worthFrom, .ref h_cutsFrom, .ref h_endFrom, .ref h_changes, .ref h_waysFrom, .int w_toCut, .int w_toLeave, .ref h_costAt, .ref h_places, .ref h_isCut, .ref h_written, .int v_writtenMany])), (h_a, .inl (cJ, 499, .inr (.inl v_a))), (h_worthFrom, .inl (cI, 33, .inl w_worthFrom)), (h_cutsFrom, .inl (cI, 33, .inl w_cutsFrom)), (h_endFrom, .inl (cI, 33, .inl w_endFrom)), (h_changes, .inl (cI, 32, .inl w_changes)), (h_waysFrom, .inl (cJ, 33, .inr (.inl w_waysFrom)))] 0 0 := ⟨_, rfl⟩
  rw [← hQ]
  refine gq_loc [(0, .ref h_t_), (1, .int x1), (2, .int x2)] rfl ?_
  have jb56 : ∀ (st_1 : Int32) (v_thrown_2 : Int32) (v_toCut_3 : Int32) (v_toLeave_4 : Int32) (v_worthFrom_5 : Nat → Int32) (v_cutsFrom_6 : Nat → Int32) (v_endFrom_7 : Nat → Int32) (v_changes_8 : Nat → Int32) (v_waysFrom_9 : Nat → Int64), F_X11_worthWith_b56 st_1 v_thrown_2 v_toCut_3 v_toLeave_4 v_worthFrom_5 v_cutsFrom_6 v_endFrom_7 v_changes_8 v_waysFrom_9 = some (r_, w_thrown, w_toCut, w_toLeave, w_worthFrom, w_cutsFrom, w_endFrom, w_changes, w_waysFrom) → Gx p l e (rmD 6) s m args below meth c D A 3 Q 0 0 56 [(0, .ref h_t_)] [.int st_1, .ref h_t_] [(h_t_, .inr (11, [.ref h_a, .ref h_fresh, .ref h_kept, .int v_keptMany, .int v_thrown_2, .ref h_buffer, .int v_buffered, .int v_size, .int v_at, .int v_behind, .int v_kind, .int v_wrong, .int v_wrongAt, .int v_errorAt, .long v_number, .ref h_worthFrom, .ref h_cutsFrom, .ref h_endFrom, .ref h_changes, .ref h_waysFrom, .int v_toCut_3, .int v_toLeave_4, .ref h_costAt, .ref h_places, .ref h_isCut, .ref h_written, .int v_writtenMany])), (h_a, .inl (cJ, 499, .inr (.inl v_a))), (h_worthFrom, .inl (cI, 33, .inl v_worthFrom_5)), (h_cutsFrom, .inl (cI, 33, .inl v_cutsFrom_6)), (h_endFrom, .inl (cI, 33, .inl v_endFrom_7)), (h_changes, .inl (cI, 32, .inl v_changes_8)), (h_waysFrom, .inl (cJ, 33, .inr (.inl v_waysFrom_9)))] := by
    intro st_1 v_thrown_2 v_toCut_3 v_toLeave_4 v_worthFrom_5 v_cutsFrom_6 v_endFrom_7 v_changes_8 v_waysFrom_9 hF
    unfold F_X11_worthWith_b56 at hF
    refine gq_put1 hC (kf := 4) 0 [(h_t_, .inr (11, [.ref h_a, .ref h_fresh, .ref h_kept, .int v_keptMany, .int st_1, .ref h_buffer, .int v_buffered, .int v_size, .int v_at, .int v_behind, .int v_kind, .int v_wrong, .int v_wrongAt, .int v_errorAt, .long v_number, .ref h_worthFrom, .ref h_cutsFrom, .ref h_endFrom, .ref h_changes, .ref h_waysFrom, .int v_toCut_3, .int v_toLeave_4, .ref h_costAt, .ref h_places, .ref h_isCut, .ref h_written, .int v_writtenMany])), (h_a, .inl (cJ, 499, .inr (.inl v_a))), (h_worthFrom, .inl (cI, 33, .inl v_worthFrom_5)), (h_cutsFrom, .inl (cI, 33, .inl v_cutsFrom_6)), (h_endFrom, .inl (cI, 33, .inl v_endFrom_7)), (h_changes, .inl (cI, 32, .inl v_changes_8)), (h_waysFrom, .inl (cJ, 33, .inr (.inl v_waysFrom_9)))] tyX11 tyX11_ok nmX11 hin_X11 rfl rfl (by decide) hw_79 rfl rfl rfl (Nat.le_of_ble_eq_true rfl) dX11_worthWith_56 rfl ?_
    refine gq_aload_n hC 0 dX11_worthWith_59 rfl rfl ?_
    refine gq_iconst hC (-1 : Int32) dX11_worthWith_60 (by decide) ?_
    refine gq_put1 hC (kf := 20) 0 [(h_t_, .inr (11, [.ref h_a, .ref h_fresh, .ref h_kept, .int v_keptMany, .int st_1, .ref h_buffer, .int v_buffered, .int v_size, .int v_at, .int v_behind, .int v_kind, .int v_wrong, .int v_wrongAt, .int v_errorAt, .long v_number, .ref h_worthFrom, .ref h_cutsFrom, .ref h_endFrom, .ref h_changes, .ref h_waysFrom, .int (-1 : Int32), .int v_toLeave_4, .ref h_costAt, .ref h_places, .ref h_isCut, .ref h_written, .int v_writtenMany])), (h_a, .inl (cJ, 499, .inr (.inl v_a))), (h_worthFrom, .inl (cI, 33, .inl v_worthFrom_5)), (h_cutsFrom, .inl (cI, 33, .inl v_cutsFrom_6)), (h_endFrom, .inl (cI, 33, .inl v_endFrom_7)), (h_changes, .inl (cI, 32, .inl v_changes_8)), (h_waysFrom, .inl (cJ, 33, .inr (.inl v_waysFrom_9)))] tyX11 tyX11_ok nmX11 hin_X11 rfl rfl (by decide) hw_42 rfl rfl rfl (Nat.le_of_ble_eq_true rfl) dX11_worthWith_61 rfl ?_
    refine gq_aload_n hC 0 dX11_worthWith_64 rfl rfl ?_
    refine gq_iconst hC (-1 : Int32) dX11_worthWith_65 (by decide) ?_
    refine gq_put1 hC (kf := 21) 0 [(h_t_, .inr (11, [.ref h_a, .ref h_fresh, .ref h_kept, .int v_keptMany, .int st_1, .ref h_buffer, .int v_buffered, .int v_size, .int v_at, .int v_behind, .int v_kind, .int v_wrong, .int v_wrongAt, .int v_errorAt, .long v_number, .ref h_worthFrom, .ref h_cutsFrom, .ref h_endFrom, .ref h_changes, .ref h_waysFrom, .int (-1 : Int32), .int (-1 : Int32), .ref h_costAt, .ref h_places, .ref h_isCut, .ref h_written, .int v_writtenMany])), (h_a, .inl (cJ, 499, .inr (.inl v_a))), (h_worthFrom, .inl (cI, 33, .inl v_worthFrom_5)), (h_cutsFrom, .inl (cI, 33, .inl v_cutsFrom_6)), (h_endFrom, .inl (cI, 33, .inl v_endFrom_7)), (h_changes, .inl (cI, 32, .inl v_changes_8)), (h_waysFrom, .inl (cJ, 33, .inr (.inl v_waysFrom_9)))] tyX11 tyX11_ok nmX11 hin_X11 rfl rfl (by decide) hw_45 rfl rfl rfl (Nat.le_of_ble_eq_true rfl) dX11_worthWith_66 rfl ?_
    refine gq_aload_n hC 0 dX11_worthWith_69 rfl rfl ?_
    refine gq_get hC (kf := 4) 0 hin_X11 rfl rfl (by decide) hw_79 rfl dX11_worthWith_70 ?_
    refine gq_if_le hC 80 dX11_worthWith_73 (by decide) (fun hc_11 => ?_) (fun hc_11 => ?_)
    · have hF := (if_pos hc_11).symm.trans hF
      refine gq_aload_n hC 0 dX11_worthWith_80 rfl rfl ?_
      refine gq_get hC (kf := 15) 0 hin_X11 rfl rfl (by decide) hw_27 rfl dX11_worthWith_81 ?_
      refine gq_iconst hC (0 : Int32) dX11_worthWith_84 (by decide) ?_
      obtain ⟨hi_10, hF⟩ := gi_e hF
      refine gq_iald hC 2 0 rfl rfl hi_10 dX11_worthWith_85 ?_
      cases hF
      rw [hQ]
      exact gq_iret hC rfl dX11_worthWith_86
    · have hF := (if_neg hc_11).symm.trans hF
      refine gq_iconst hC (0 : Int32) dX11_worthWith_76 (by decide) ?_
      refine gq_goto hC 86 dX11_worthWith_77 (by decide) ?_
      cases hF
      rw [hQ]
      exact gq_iret hC rfl dX11_worthWith_86
  have jb43 : ∀ (v_thrown_12 : Int32) (v_toCut_13 : Int32) (v_toLeave_14 : Int32) (v_worthFrom_15 : Nat → Int32) (v_cutsFrom_16 : Nat → Int32) (v_endFrom_17 : Nat → Int32) (v_changes_18 : Nat → Int32) (v_waysFrom_19 : Nat → Int64), F_X11_worthWith_b43 v_thrown_12 v_toCut_13 v_toLeave_14 v_a v_worthFrom_15 v_cutsFrom_16 v_endFrom_17 v_changes_18 v_waysFrom_19 = some (r_, w_thrown, w_toCut, w_toLeave, w_worthFrom, w_cutsFrom, w_endFrom, w_changes, w_waysFrom) → Gx p l e (rmD 6) s m args below meth c D A 3 Q 0 0 43 [(0, .ref h_t_)] [] [(h_t_, .inr (11, [.ref h_a, .ref h_fresh, .ref h_kept, .int v_keptMany, .int v_thrown_12, .ref h_buffer, .int v_buffered, .int v_size, .int v_at, .int v_behind, .int v_kind, .int v_wrong, .int v_wrongAt, .int v_errorAt, .long v_number, .ref h_worthFrom, .ref h_cutsFrom, .ref h_endFrom, .ref h_changes, .ref h_waysFrom, .int v_toCut_13, .int v_toLeave_14, .ref h_costAt, .ref h_places, .ref h_isCut, .ref h_written, .int v_writtenMany])), (h_a, .inl (cJ, 499, .inr (.inl v_a))), (h_worthFrom, .inl (cI, 33, .inl v_worthFrom_15)), (h_cutsFrom, .inl (cI, 33, .inl v_cutsFrom_16)), (h_endFrom, .inl (cI, 33, .inl v_endFrom_17)), (h_changes, .inl (cI, 32, .inl v_changes_18)), (h_waysFrom, .inl (cJ, 33, .inr (.inl v_waysFrom_19)))] := by
    intro v_thrown_12 v_toCut_13 v_toLeave_14 v_worthFrom_15 v_cutsFrom_16 v_endFrom_17 v_changes_18 v_waysFrom_19 hF
    unfold F_X11_worthWith_b43 at hF
    refine gq_aload_n hC 0 dX11_worthWith_43 rfl rfl ?_
    refine gq_aload_n hC 0 dX11_worthWith_44 rfl rfl ?_
    obtain ⟨r_20, v_worthFrom_21, v_cutsFrom_22, v_endFrom_23, v_changes_24, v_waysFrom_25, hc_, hF⟩ := ob6_e hF
    refine gq_callVi hC [0, 1, 2, 3, 4, 5, 6] [(h_t_, .inr (11, [.ref h_a, .ref h_fresh, .ref h_kept, .int v_keptMany, .int v_thrown_12, .ref h_buffer, .int v_buffered, .int v_size, .int v_at, .int v_behind, .int v_kind, .int v_wrong, .int v_wrongAt, .int v_errorAt, .long v_number, .ref h_worthFrom, .ref h_cutsFrom, .ref h_endFrom, .ref h_changes, .ref h_waysFrom, .int v_toCut_13, .int v_toLeave_14, .ref h_costAt, .ref h_places, .ref h_isCut, .ref h_written, .int v_writtenMany])), (h_a, .inl (cJ, 499, .inr (.inl v_a))), (h_worthFrom, .inl (cI, 33, .inl v_worthFrom_21)), (h_cutsFrom, .inl (cI, 33, .inl v_cutsFrom_22)), (h_endFrom, .inl (cI, 33, .inl v_endFrom_23)), (h_changes, .inl (cI, 32, .inl v_changes_24)), (h_waysFrom, .inl (cJ, 33, .inr (.inl v_waysFrom_25)))] [] [.ref h_t_] (k_X11_hasBest l D cI cJ cZ cO z h_t_ h_a h_worthFrom h_cutsFrom h_endFrom h_changes h_waysFrom h_fresh h_kept h_buffer h_costAt h_places h_isCut h_written v_keptMany v_thrown_12 v_buffered v_size v_at v_behind v_kind v_wrong v_wrongAt v_errorAt v_number v_toCut_13 v_toLeave_14 v_writtenMany v_a v_worthFrom_15 v_cutsFrom_16 v_endFrom_17 v_changes_18 v_waysFrom_19 r_20 v_worthFrom_21 v_cutsFrom_22 v_endFrom_23 v_changes_24 v_waysFrom_25 hc_) gX11_worthWith_X11_hasBest rfl ⟨rfl, rfl⟩ hy_X11_hasBest ⟨Nat.le_of_ble_eq_true rfl, Nat.le_of_ble_eq_true rfl⟩ rfl rfl rfl (q0 := 0) rfl rfl rfl (Nat.le_of_ble_eq_true rfl) rfl dX11_worthWith_45 rfl rfl ?_
    refine gq_if_eq hC 55 dX11_worthWith_48 (by decide) (fun hc_26 => ?_) (fun hc_26 => ?_)
    · have hF := (if_pos hc_26).symm.trans hF
      refine gq_iconst hC (2 : Int32) dX11_worthWith_55 (by decide) ?_
      exact jb56 (2 : Int32) v_thrown_12 v_toCut_13 v_toLeave_14 v_worthFrom_21 v_cutsFrom_22 v_endFrom_23 v_changes_24 v_waysFrom_25 hF
    · have hF := (if_neg hc_26).symm.trans hF
      refine gq_iconst hC (0 : Int32) dX11_worthWith_51 (by decide) ?_
      refine gq_goto hC 56 dX11_worthWith_52 (by decide) ?_
      exact jb56 (0 : Int32) v_thrown_12 v_toCut_13 v_toLeave_14 v_worthFrom_21 v_cutsFrom_22 v_endFrom_23 v_changes_24 v_waysFrom_25 hF
  have jb14 : ∀ (st_27 : Int32) (v_thrown_28 : Int32) (v_toCut_29 : Int32) (v_toLeave_30 : Int32) (v_worthFrom_31 : Nat → Int32) (v_cutsFrom_32 : Nat → Int32) (v_endFrom_33 : Nat → Int32) (v_changes_34 : Nat → Int32) (v_waysFrom_35 : Nat → Int64), F_X11_worthWith_b14 x1 x2 st_27 v_thrown_28 v_toCut_29 v_toLeave_30 v_a v_worthFrom_31 v_cutsFrom_32 v_endFrom_33 v_changes_34 v_waysFrom_35 = some (r_, w_thrown, w_toCut, w_toLeave, w_worthFrom, w_cutsFrom, w_endFrom, w_changes, w_waysFrom) → Gx p l e (rmD 6) s m args below meth c D A 3 Q 0 0 14 [(0, .ref h_t_), (1, .int x1), (2, .int x2)] [.int st_27, .ref h_t_] [(h_t_, .inr (11, [.ref h_a, .ref h_fresh, .ref h_kept, .int v_keptMany, .int v_thrown_28, .ref h_buffer, .int v_buffered, .int v_size, .int v_at, .int v_behind, .int v_kind, .int v_wrong, .int v_wrongAt, .int v_errorAt, .long v_number, .ref h_worthFrom, .ref h_cutsFrom, .ref h_endFrom, .ref h_changes, .ref h_waysFrom, .int v_toCut_29, .int v_toLeave_30, .ref h_costAt, .ref h_places, .ref h_isCut, .ref h_written, .int v_writtenMany])), (h_a, .inl (cJ, 499, .inr (.inl v_a))), (h_worthFrom, .inl (cI, 33, .inl v_worthFrom_31)), (h_cutsFrom, .inl (cI, 33, .inl v_cutsFrom_32)), (h_endFrom, .inl (cI, 33, .inl v_endFrom_33)), (h_changes, .inl (cI, 32, .inl v_changes_34)), (h_waysFrom, .inl (cJ, 33, .inr (.inl v_waysFrom_35)))] := by
    intro st_27 v_thrown_28 v_toCut_29 v_toLeave_30 v_worthFrom_31 v_cutsFrom_32 v_endFrom_33 v_changes_34 v_waysFrom_35 hF
    unfold F_X11_worthWith_b14 at hF
    refine gq_put1 hC (kf := 4) 0 [(h_t_, .inr (11, [.ref h_a, .ref h_fresh, .ref h_kept, .int v_keptMany, .int st_27, .ref h_buffer, .int v_buffered, .int v_size, .int v_at, .int v_behind, .int v_kind, .int v_wrong, .int v_wrongAt, .int v_errorAt, .long v_number, .ref h_worthFrom, .ref h_cutsFrom, .ref h_endFrom, .ref h_changes, .ref h_waysFrom, .int v_toCut_29, .int v_toLeave_30, .ref h_costAt, .ref h_places, .ref h_isCut, .ref h_written, .int v_writtenMany])), (h_a, .inl (cJ, 499, .inr (.inl v_a))), (h_worthFrom, .inl (cI, 33, .inl v_worthFrom_31)), (h_cutsFrom, .inl (cI, 33, .inl v_cutsFrom_32)), (h_endFrom, .inl (cI, 33, .inl v_endFrom_33)), (h_changes, .inl (cI, 32, .inl v_changes_34)), (h_waysFrom, .inl (cJ, 33, .inr (.inl v_waysFrom_35)))] tyX11 tyX11_ok nmX11 hin_X11 rfl rfl (by decide) hw_79 rfl rfl rfl (Nat.le_of_ble_eq_true rfl) dX11_worthWith_14 rfl ?_
    refine gq_aload_n hC 0 dX11_worthWith_17 rfl rfl ?_
    refine gq_get hC (kf := 4) 0 hin_X11 rfl rfl (by decide) hw_79 rfl dX11_worthWith_18 ?_
    refine gq_if_le hC 26 dX11_worthWith_21 (by decide) (fun hc_37 => ?_) (fun hc_37 => ?_)
    · have hF := (if_pos hc_37).symm.trans hF
      refine gq_iload_n hC 2 dX11_worthWith_26 rfl rfl ?_
      refine gq_if_eq hC 38 dX11_worthWith_27 (by decide) (fun hc_36 => ?_) (fun hc_36 => ?_)
      · have hF := (if_pos hc_36).symm.trans hF
        refine gq_aload_n hC 0 dX11_worthWith_38 rfl rfl ?_
        refine gq_iload_n hC 1 dX11_worthWith_39 rfl rfl ?_
        refine gq_put1 hC (kf := 21) 0 [(h_t_, .inr (11, [.ref h_a, .ref h_fresh, .ref h_kept, .int v_keptMany, .int st_27, .ref h_buffer, .int v_buffered, .int v_size, .int v_at, .int v_behind, .int v_kind, .int v_wrong, .int v_wrongAt, .int v_errorAt, .long v_number, .ref h_worthFrom, .ref h_cutsFrom, .ref h_endFrom, .ref h_changes, .ref h_waysFrom, .int v_toCut_29, .int x1, .ref h_costAt, .ref h_places, .ref h_isCut, .ref h_written, .int v_writtenMany])), (h_a, .inl (cJ, 499, .inr (.inl v_a))), (h_worthFrom, .inl (cI, 33, .inl v_worthFrom_31)), (h_cutsFrom, .inl (cI, 33, .inl v_cutsFrom_32)), (h_endFrom, .inl (cI, 33, .inl v_endFrom_33)), (h_changes, .inl (cI, 32, .inl v_changes_34)), (h_waysFrom, .inl (cJ, 33, .inr (.inl v_waysFrom_35)))] tyX11 tyX11_ok nmX11 hin_X11 rfl rfl (by decide) hw_45 rfl rfl rfl (Nat.le_of_ble_eq_true rfl) dX11_worthWith_40 rfl ?_
        refine gq_sub [(0, .ref h_t_)] [0] rfl ?_
        exact jb43 st_27 v_toCut_29 x1 v_worthFrom_31 v_cutsFrom_32 v_endFrom_33 v_changes_34 v_waysFrom_35 hF
      · have hF := (if_neg hc_36).symm.trans hF
        refine gq_aload_n hC 0 dX11_worthWith_30 rfl rfl ?_
        refine gq_iload_n hC 1 dX11_worthWith_31 rfl rfl ?_
        refine gq_put1 hC (kf := 20) 0 [(h_t_, .inr (11, [.ref h_a, .ref h_fresh, .ref h_kept, .int v_keptMany, .int st_27, .ref h_buffer, .int v_buffered, .int v_size, .int v_at, .int v_behind, .int v_kind, .int v_wrong, .int v_wrongAt, .int v_errorAt, .long v_number, .ref h_worthFrom, .ref h_cutsFrom, .ref h_endFrom, .ref h_changes, .ref h_waysFrom, .int x1, .int v_toLeave_30, .ref h_costAt, .ref h_places, .ref h_isCut, .ref h_written, .int v_writtenMany])), (h_a, .inl (cJ, 499, .inr (.inl v_a))), (h_worthFrom, .inl (cI, 33, .inl v_worthFrom_31)), (h_cutsFrom, .inl (cI, 33, .inl v_cutsFrom_32)), (h_endFrom, .inl (cI, 33, .inl v_endFrom_33)), (h_changes, .inl (cI, 32, .inl v_changes_34)), (h_waysFrom, .inl (cJ, 33, .inr (.inl v_waysFrom_35)))] tyX11 tyX11_ok nmX11 hin_X11 rfl rfl (by decide) hw_42 rfl rfl rfl (Nat.le_of_ble_eq_true rfl) dX11_worthWith_32 rfl ?_
        refine gq_goto hC 43 dX11_worthWith_35 (by decide) ?_
        refine gq_sub [(0, .ref h_t_)] [0] rfl ?_
        exact jb43 st_27 x1 v_toLeave_30 v_worthFrom_31 v_cutsFrom_32 v_endFrom_33 v_changes_34 v_waysFrom_35 hF
    · have hF := (if_neg hc_37).symm.trans hF
      refine gq_iconst hC (0 : Int32) dX11_worthWith_24 (by decide) ?_
      cases hF
      rw [hQ]
      exact gq_iret hC rfl dX11_worthWith_25
  unfold F_X11_worthWith at hF
  refine gq_aload_n hC 0 dX11_worthWith_0 rfl rfl ?_
  refine gq_aload_n hC 0 dX11_worthWith_1 rfl rfl ?_
  refine gq_iload_n hC 1 dX11_worthWith_2 rfl rfl ?_
  obtain ⟨r_38, hc_, hF⟩ := ob1_e hF
  refine gq_callVi hC [0, 1] [(h_t_, .inr (11, [.ref h_a, .ref h_fresh, .ref h_kept, .int v_keptMany, .int v_thrown, .ref h_buffer, .int v_buffered, .int v_size, .int v_at, .int v_behind, .int v_kind, .int v_wrong, .int v_wrongAt, .int v_errorAt, .long v_number, .ref h_worthFrom, .ref h_cutsFrom, .ref h_endFrom, .ref h_changes, .ref h_waysFrom, .int v_toCut, .int v_toLeave, .ref h_costAt, .ref h_places, .ref h_isCut, .ref h_written, .int v_writtenMany])), (h_a, .inl (cJ, 499, .inr (.inl v_a))), (h_worthFrom, .inl (cI, 33, .inl v_worthFrom)), (h_cutsFrom, .inl (cI, 33, .inl v_cutsFrom)), (h_endFrom, .inl (cI, 33, .inl v_endFrom)), (h_changes, .inl (cI, 32, .inl v_changes)), (h_waysFrom, .inl (cJ, 33, .inr (.inl v_waysFrom)))] [.int x1] [.ref h_t_] (k_X11_isBoundary l D cI cJ cZ cO z h_t_ h_a h_fresh h_kept h_buffer h_worthFrom h_cutsFrom h_endFrom h_changes h_waysFrom h_costAt h_places h_isCut h_written x1 v_keptMany v_thrown v_buffered v_size v_at v_behind v_kind v_wrong v_wrongAt v_errorAt v_number v_toCut v_toLeave v_writtenMany v_a r_38 hc_) gX11_worthWith_X11_isBoundary rfl ⟨rfl, rfl⟩ hy_X11_isBoundary ⟨Nat.le_of_ble_eq_true rfl, Nat.le_of_ble_eq_true rfl⟩ rfl rfl rfl (q0 := 0) rfl rfl rfl (Nat.le_of_ble_eq_true rfl) rfl dX11_worthWith_3 rfl rfl ?_
  refine gq_if_eq hC 13 dX11_worthWith_6 (by decide) (fun hc_39 => ?_) (fun hc_39 => ?_)
  · have hF := (if_pos hc_39).symm.trans hF
    refine gq_iconst hC (1 : Int32) dX11_worthWith_13 (by decide) ?_
    exact jb14 (1 : Int32) v_thrown v_toCut v_toLeave v_worthFrom v_cutsFrom v_endFrom v_changes v_waysFrom hF
  · have hF := (if_neg hc_39).symm.trans hF
    refine gq_iconst hC (0 : Int32) dX11_worthWith_9 (by decide) ?_
    refine gq_goto hC 14 dX11_worthWith_10 (by decide) ?_
    exact jb14 (0 : Int32) v_thrown v_toCut v_toLeave v_worthFrom v_cutsFrom v_endFrom v_changes v_waysFrom hF
theorem hy_X11_priceFor : yX11_priceFor.cls = RX11 ∧ yX11_priceFor.cls ≠ "java/lang/invoke/MethodHandle" ∧ yX11_priceFor.cls ≠ "java/lang/invoke/VarHandle" ∧ (parseMethodDescriptor yX11_priceFor.desc).map (fun d => d.parameters.length) = some 1 := by decide +kernel
set_option maxRecDepth 20000 in
set_option maxHeartbeats 4000000 in
theorem k_X11_priceFor (l : Launch) (D : va_G) (cI cJ cZ cO : ClassId) (z : Nat → Nat)   (h_t_ : Nat) (h_a : Nat) (h_worthFrom : Nat) (h_cutsFrom : Nat) (h_endFrom : Nat) (h_changes : Nat) (h_waysFrom : Nat) (h_fresh : Nat) (h_kept : Nat) (h_buffer : Nat) (h_costAt : Nat) (h_places : Nat) (h_isCut : Nat) (h_written : Nat) (x1 : Int32) (v_keptMany : Int32) (v_thrown : Int32) (v_buffered : Int32) (v_size : Int32) (v_at : Int32) (v_behind : Int32) (v_kind : Int32) (v_wrong : Int32) (v_wrongAt : Int32) (v_errorAt : Int32) (v_number : Int64) (v_toCut : Int32) (v_toLeave : Int32) (v_writtenMany : Int32) (v_a : Nat → Int64) (v_worthFrom : Nat → Int32) (v_cutsFrom : Nat → Int32) (v_endFrom : Nat → Int32) (v_changes : Nat → Int32) (v_waysFrom : Nat → Int64) (r_ : Int32) (w_thrown : Int32) (w_a : Nat → Int64) (w_worthFrom : Nat → Int32) (w_cutsFrom : Nat → Int32) (w_endFrom : Nat → Int32) (w_changes : Nat → Int32) (w_waysFrom : Nat → Int64) (hF : F_X11_priceFor x1 v_thrown v_toCut v_toLeave v_a v_worthFrom v_cutsFrom v_endFrom v_changes v_waysFrom = some (r_, w_thrown, w_a, w_worthFrom, w_cutsFrom, w_endFrom, w_changes, w_waysFrom)) : Mi l yX11_priceFor wsX11_priceFor (rmD 6) D (gq_ty cI cJ cZ cO) z [.ref h_t_, .int x1] [(h_t_, .inr (11, [.ref h_a, .ref h_fresh, .ref h_kept, .int v_keptMany, .int v_thrown, .ref h_buffer, .int v_buffered, .int v_size, .int v_at, .int v_behind, .int v_kind, .int v_wrong, .int v_wrongAt, .int v_errorAt, .long v_number, .ref h_worthFrom, .ref h_cutsFrom, .ref h_endFrom, .ref h_changes, .ref h_waysFrom, .int v_toCut, .int v_toLeave, .ref h_costAt, .ref h_places, .ref h_isCut, .ref h_written, .int v_writtenMany])), (h_a, .inl (cJ, 499, .inr (.inl v_a))), (h_worthFrom, .inl (cI, 33, .inl v_worthFrom)), (h_cutsFrom, .inl (cI, 33, .inl v_cutsFrom)), (h_endFrom, .inl (cI, 33, .inl v_endFrom)), (h_changes, .inl (cI, 32, .inl v_changes)), (h_waysFrom, .inl (cJ, 33, .inr (.inl v_waysFrom)))] r_ [(h_t_, .inr (11, [.ref h_a, .ref h_fresh, .ref h_kept, .int v_keptMany, .int w_thrown, .ref h_buffer, .int v_buffered, .int v_size, .int v_at, .int v_behind, .int v_kind, .int v_wrong, .int v_wrongAt, .int v_errorAt, .long v_number, .ref h_worthFrom, .ref h_cutsFrom, .ref h_endFrom, .ref h_changes, .ref h_waysFrom, .int v_toCut, .int v_toLeave, .ref h_costAt, .ref h_places, .ref h_isCut, .ref h_written, .int v_writtenMany])), (h_a, .inl (cJ, 499, .inr (.inl w_a))), (h_worthFrom, .inl (cI, 33, .inl w_worthFrom)), (h_cutsFrom, .inl (cI, 33, .inl w_cutsFrom)), (h_endFrom, .inl (cI, 33, .inl w_endFrom)), (h_changes, .inl (cI, 32, .inl w_changes)), (h_waysFrom, .inl (cJ, 33, .inr (.inl w_waysFrom)))] 0 0 := by
  refine Mi.of (cc := cX11_priceFor) (maxL := 5) (by decide) rfl (Nat.le_of_ble_eq_true rfl) ⟨Nat.le_refl 0, Nat.le_refl 0⟩ ?_
  intro p e s m args below meth c A hC ha
  have hin_X11 : ∀ w ∈ wsX110, w ∈ wsX11_priceFor := by decide +kernel
  have hw_9 : Cond.fieldLink RX11 9 (TX11 0).1 (TX11 0).2.1 (TX11 0).2.2.1 ∈ wsX11_priceFor := by decide +kernel
  have hw_30 : Cond.fieldLink RX11 30 (TX11 16).1 (TX11 16).2.1 (TX11 16).2.2.1 ∈ wsX11_priceFor := by decide +kernel
  have hw_79 : Cond.fieldLink RX11 79 (TX11 4).1 (TX11 4).2.1 (TX11 4).2.2.1 ∈ wsX11_priceFor := by decide +kernel
  obtain ⟨Q, hQ⟩ : ∃ Q, Q = gq_Qi below D A args s r_ [(h_t_, .inr (11, [.ref h_a, .ref h_fresh, .ref h_kept, .int v_keptMany, .int w_thrown, .ref h_buffer, .int v_buffered, .int v_size, .int v_at, .int v_behind, .int v_kind, .int v_wrong, .int v_wrongAt, .int v_errorAt, .long v_number, .ref h_worthFrom, .ref h_cutsFrom, .ref h_endFrom, .ref h_changes, .ref h_waysFrom, .int v_toCut, .int v_toLeave, .ref h_costAt, .ref h_places, .ref h_isCut, .ref h_written, .int v_writtenMany])), (h_a, .inl (cJ, 499, .inr (.inl w_a))), (h_worthFrom, .inl (cI, 33, .inl w_worthFrom)), (h_cutsFrom, .inl (cI, 33, .inl w_cutsFrom)), (h_endFrom, .inl (cI, 33, .inl w_endFrom)), (h_changes, .inl (cI, 32, .inl w_changes)), (h_waysFrom, .inl (cJ, 33, .inr (.inl w_waysFrom)))] 0 0 := ⟨_, rfl⟩
  rw [← hQ]
  refine gq_loc [(0, .ref h_t_), (1, .int x1)] rfl ?_
  have jb107 : ∀ (l4_1 : Int32) (st_2 : Int32) (v_thrown_3 : Int32) (v_a_4 : Nat → Int64) (v_worthFrom_5 : Nat → Int32) (v_cutsFrom_6 : Nat → Int32) (v_endFrom_7 : Nat → Int32) (v_changes_8 : Nat → Int32) (v_waysFrom_9 : Nat → Int64), F_X11_priceFor_b107 l4_1 st_2 v_thrown_3 v_a_4 v_worthFrom_5 v_cutsFrom_6 v_endFrom_7 v_changes_8 v_waysFrom_9 = some (r_, w_thrown, w_a, w_worthFrom, w_cutsFrom, w_endFrom, w_changes, w_waysFrom) → Gx p l e (rmD 6) s m args below meth c D A 5 Q 0 0 107 [(0, .ref h_t_), (4, .int l4_1)] [.int st_2, .ref h_t_] [(h_t_, .inr (11, [.ref h_a, .ref h_fresh, .ref h_kept, .int v_keptMany, .int v_thrown_3, .ref h_buffer, .int v_buffered, .int v_size, .int v_at, .int v_behind, .int v_kind, .int v_wrong, .int v_wrongAt, .int v_errorAt, .long v_number, .ref h_worthFrom, .ref h_cutsFrom, .ref h_endFrom, .ref h_changes, .ref h_waysFrom, .int v_toCut, .int v_toLeave, .ref h_costAt, .ref h_places, .ref h_isCut, .ref h_written, .int v_writtenMany])), (h_a, .inl (cJ, 499, .inr (.inl v_a_4))), (h_worthFrom, .inl (cI, 33, .inl v_worthFrom_5)), (h_cutsFrom, .inl (cI, 33, .inl v_cutsFrom_6)), (h_endFrom, .inl (cI, 33, .inl v_endFrom_7)), (h_changes, .inl (cI, 32, .inl v_changes_8)), (h_waysFrom, .inl (cJ, 33, .inr (.inl v_waysFrom_9)))] := by
    intro l4_1 st_2 v_thrown_3 v_a_4 v_worthFrom_5 v_cutsFrom_6 v_endFrom_7 v_changes_8 v_waysFrom_9 hF
    unfold F_X11_priceFor_b107 at hF
    refine gq_put1 hC (kf := 4) 0 [(h_t_, .inr (11, [.ref h_a, .ref h_fresh, .ref h_kept, .int v_keptMany, .int st_2, .ref h_buffer, .int v_buffered, .int v_size, .int v_at, .int v_behind, .int v_kind, .int v_wrong, .int v_wrongAt, .int v_errorAt, .long v_number, .ref h_worthFrom, .ref h_cutsFrom, .ref h_endFrom, .ref h_changes, .ref h_waysFrom, .int v_toCut, .int v_toLeave, .ref h_costAt, .ref h_places, .ref h_isCut, .ref h_written, .int v_writtenMany])), (h_a, .inl (cJ, 499, .inr (.inl v_a_4))), (h_worthFrom, .inl (cI, 33, .inl v_worthFrom_5)), (h_cutsFrom, .inl (cI, 33, .inl v_cutsFrom_6)), (h_endFrom, .inl (cI, 33, .inl v_endFrom_7)), (h_changes, .inl (cI, 32, .inl v_changes_8)), (h_waysFrom, .inl (cJ, 33, .inr (.inl v_waysFrom_9)))] tyX11 tyX11_ok nmX11 hin_X11 rfl rfl (by decide) hw_79 rfl rfl rfl (Nat.le_of_ble_eq_true rfl) dX11_priceFor_107 rfl ?_
    refine gq_aload_n hC 0 dX11_priceFor_110 rfl rfl ?_
    refine gq_get hC (kf := 4) 0 hin_X11 rfl rfl (by decide) hw_79 rfl dX11_priceFor_111 ?_
    refine gq_if_le hC 121 dX11_priceFor_114 (by decide) (fun hc_10 => ?_) (fun hc_10 => ?_)
    · have hF := (if_pos hc_10).symm.trans hF
      refine gq_iload hC 1 dX11_priceFor_121 rfl ?_
      cases hF
      rw [hQ]
      exact gq_iret hC rfl dX11_priceFor_123
    · have hF := (if_neg hc_10).symm.trans hF
      refine gq_iconst hC (0 : Int32) dX11_priceFor_117 (by decide) ?_
      refine gq_goto hC 123 dX11_priceFor_118 (by decide) ?_
      cases hF
      rw [hQ]
      exact gq_iret hC rfl dX11_priceFor_123
  have jb89 : ∀ (l2_11 : Int64) (l4_12 : Int32) (v_thrown_13 : Int32) (v_a_14 : Nat → Int64) (v_worthFrom_15 : Nat → Int32) (v_cutsFrom_16 : Nat → Int32) (v_endFrom_17 : Nat → Int32) (v_changes_18 : Nat → Int32) (v_waysFrom_19 : Nat → Int64), F_X11_priceFor_b89 l2_11 l4_12 v_thrown_13 v_a_14 v_worthFrom_15 v_cutsFrom_16 v_endFrom_17 v_changes_18 v_waysFrom_19 = some (r_, w_thrown, w_a, w_worthFrom, w_cutsFrom, w_endFrom, w_changes, w_waysFrom) → Gx p l e (rmD 6) s m args below meth c D A 5 Q 0 0 89 [(0, .ref h_t_), (2, .long l2_11), (4, .int l4_12)] [] [(h_t_, .inr (11, [.ref h_a, .ref h_fresh, .ref h_kept, .int v_keptMany, .int v_thrown_13, .ref h_buffer, .int v_buffered, .int v_size, .int v_at, .int v_behind, .int v_kind, .int v_wrong, .int v_wrongAt, .int v_errorAt, .long v_number, .ref h_worthFrom, .ref h_cutsFrom, .ref h_endFrom, .ref h_changes, .ref h_waysFrom, .int v_toCut, .int v_toLeave, .ref h_costAt, .ref h_places, .ref h_isCut, .ref h_written, .int v_writtenMany])), (h_a, .inl (cJ, 499, .inr (.inl v_a_14))), (h_worthFrom, .inl (cI, 33, .inl v_worthFrom_15)), (h_cutsFrom, .inl (cI, 33, .inl v_cutsFrom_16)), (h_endFrom, .inl (cI, 33, .inl v_endFrom_17)), (h_changes, .inl (cI, 32, .inl v_changes_18)), (h_waysFrom, .inl (cJ, 33, .inr (.inl v_waysFrom_19)))] := by
    intro l2_11 l4_12 v_thrown_13 v_a_14 v_worthFrom_15 v_cutsFrom_16 v_endFrom_17 v_changes_18 v_waysFrom_19 hF
    unfold F_X11_priceFor_b89 at hF
    refine gq_aload_n hC 0 dX11_priceFor_89 rfl rfl ?_
    refine gq_get hC (kf := 0) 0 hin_X11 rfl rfl (by decide) hw_9 rfl dX11_priceFor_90 ?_
    refine gq_iconst hC (3 : Int32) dX11_priceFor_93 (by decide) ?_
    refine gq_lload_n hC 1 dX11_priceFor_94 rfl rfl ?_
    obtain ⟨hi_20, hF⟩ := gi_e hF
    refine gq_last hC 1 1 [(h_t_, .inr (11, [.ref h_a, .ref h_fresh, .ref h_kept, .int v_keptMany, .int v_thrown_13, .ref h_buffer, .int v_buffered, .int v_size, .int v_at, .int v_behind, .int v_kind, .int v_wrong, .int v_wrongAt, .int v_errorAt, .long v_number, .ref h_worthFrom, .ref h_cutsFrom, .ref h_endFrom, .ref h_changes, .ref h_waysFrom, .int v_toCut, .int v_toLeave, .ref h_costAt, .ref h_places, .ref h_isCut, .ref h_written, .int v_writtenMany])), (h_a, .inl (cJ, 499, .inr (.inl (vp_updL v_a_14 (3 : Int32).toNatClampNeg l2_11)))), (h_worthFrom, .inl (cI, 33, .inl v_worthFrom_15)), (h_cutsFrom, .inl (cI, 33, .inl v_cutsFrom_16)), (h_endFrom, .inl (cI, 33, .inl v_endFrom_17)), (h_changes, .inl (cI, 32, .inl v_changes_18)), (h_waysFrom, .inl (cJ, 33, .inr (.inl v_waysFrom_19)))] rfl rfl hi_20 dX11_priceFor_95 rfl ?_
    refine gq_aload_n hC 0 dX11_priceFor_96 rfl rfl ?_
    refine gq_iload hC 2 dX11_priceFor_97 rfl ?_
    refine gq_if_ge hC 106 dX11_priceFor_99 (by decide) (fun hc_21 => ?_) (fun hc_21 => ?_)
    · have hF := (if_pos hc_21).symm.trans hF
      refine gq_iconst hC (0 : Int32) dX11_priceFor_106 (by decide) ?_
      refine gq_sub [(0, .ref h_t_), (4, .int l4_12)] [0, 2] rfl ?_
      exact jb107 l4_12 (0 : Int32) v_thrown_13 (vp_updL v_a_14 (3 : Int32).toNatClampNeg l2_11) v_worthFrom_15 v_cutsFrom_16 v_endFrom_17 v_changes_18 v_waysFrom_19 hF
    · have hF := (if_neg hc_21).symm.trans hF
      refine gq_iconst hC (2 : Int32) dX11_priceFor_102 (by decide) ?_
      refine gq_goto hC 107 dX11_priceFor_103 (by decide) ?_
      refine gq_sub [(0, .ref h_t_), (4, .int l4_12)] [0, 2] rfl ?_
      exact jb107 l4_12 (2 : Int32) v_thrown_13 (vp_updL v_a_14 (3 : Int32).toNatClampNeg l2_11) v_worthFrom_15 v_cutsFrom_16 v_endFrom_17 v_changes_18 v_waysFrom_19 hF
  have jb18 : ∀ (st_22 : Int32) (v_thrown_23 : Int32) (v_a_24 : Nat → Int64) (v_worthFrom_25 : Nat → Int32) (v_cutsFrom_26 : Nat → Int32) (v_endFrom_27 : Nat → Int32) (v_changes_28 : Nat → Int32) (v_waysFrom_29 : Nat → Int64), F_X11_priceFor_b18 x1 st_22 v_thrown_23 v_toCut v_toLeave v_a_24 v_worthFrom_25 v_cutsFrom_26 v_endFrom_27 v_changes_28 v_waysFrom_29 = some (r_, w_thrown, w_a, w_worthFrom, w_cutsFrom, w_endFrom, w_changes, w_waysFrom) → Gx p l e (rmD 6) s m args below meth c D A 5 Q 0 0 18 [(0, .ref h_t_), (1, .int x1)] [.int st_22, .ref h_t_] [(h_t_, .inr (11, [.ref h_a, .ref h_fresh, .ref h_kept, .int v_keptMany, .int v_thrown_23, .ref h_buffer, .int v_buffered, .int v_size, .int v_at, .int v_behind, .int v_kind, .int v_wrong, .int v_wrongAt, .int v_errorAt, .long v_number, .ref h_worthFrom, .ref h_cutsFrom, .ref h_endFrom, .ref h_changes, .ref h_waysFrom, .int v_toCut, .int v_toLeave, .ref h_costAt, .ref h_places, .ref h_isCut, .ref h_written, .int v_writtenMany])), (h_a, .inl (cJ, 499, .inr (.inl v_a_24))), (h_worthFrom, .inl (cI, 33, .inl v_worthFrom_25)), (h_cutsFrom, .inl (cI, 33, .inl v_cutsFrom_26)), (h_endFrom, .inl (cI, 33, .inl v_endFrom_27)), (h_changes, .inl (cI, 32, .inl v_changes_28)), (h_waysFrom, .inl (cJ, 33, .inr (.inl v_waysFrom_29)))] := by
    intro st_22 v_thrown_23 v_a_24 v_worthFrom_25 v_cutsFrom_26 v_endFrom_27 v_changes_28 v_waysFrom_29 hF
    unfold F_X11_priceFor_b18 at hF
    refine gq_put1 hC (kf := 4) 0 [(h_t_, .inr (11, [.ref h_a, .ref h_fresh, .ref h_kept, .int v_keptMany, .int st_22, .ref h_buffer, .int v_buffered, .int v_size, .int v_at, .int v_behind, .int v_kind, .int v_wrong, .int v_wrongAt, .int v_errorAt, .long v_number, .ref h_worthFrom, .ref h_cutsFrom, .ref h_endFrom, .ref h_changes, .ref h_waysFrom, .int v_toCut, .int v_toLeave, .ref h_costAt, .ref h_places, .ref h_isCut, .ref h_written, .int v_writtenMany])), (h_a, .inl (cJ, 499, .inr (.inl v_a_24))), (h_worthFrom, .inl (cI, 33, .inl v_worthFrom_25)), (h_cutsFrom, .inl (cI, 33, .inl v_cutsFrom_26)), (h_endFrom, .inl (cI, 33, .inl v_endFrom_27)), (h_changes, .inl (cI, 32, .inl v_changes_28)), (h_waysFrom, .inl (cJ, 33, .inr (.inl v_waysFrom_29)))] tyX11 tyX11_ok nmX11 hin_X11 rfl rfl (by decide) hw_79 rfl rfl rfl (Nat.le_of_ble_eq_true rfl) dX11_priceFor_18 rfl ?_
    refine gq_aload_n hC 0 dX11_priceFor_21 rfl rfl ?_
    refine gq_get hC (kf := 4) 0 hin_X11 rfl rfl (by decide) hw_79 rfl dX11_priceFor_22 ?_
    refine gq_if_le hC 30 dX11_priceFor_25 (by decide) (fun hc_73 => ?_) (fun hc_73 => ?_)
    · have hF := (if_pos hc_73).symm.trans hF
      refine gq_aload_n hC 0 dX11_priceFor_30 rfl rfl ?_
      refine gq_get hC (kf := 0) 0 hin_X11 rfl rfl (by decide) hw_9 rfl dX11_priceFor_31 ?_
      refine gq_iconst hC (3 : Int32) dX11_priceFor_34 (by decide) ?_
      obtain ⟨hi_30, hF⟩ := gi_e hF
      refine gq_lald hC 1 1 rfl rfl hi_30 dX11_priceFor_35 ?_
      refine gq_lstore_n hC [(2, .long (v_a_24 (3 : Int32).toNatClampNeg)), (0, .ref h_t_), (1, .int x1)] dX11_priceFor_36 rfl (by decide) rfl ?_
      refine gq_bipush hC (100 : Int32) dX11_priceFor_37 (by decide) ?_
      refine gq_istore hC [(4, .int (100 : Int32)), (2, .long (v_a_24 (3 : Int32).toNatClampNeg)), (0, .ref h_t_), (1, .int x1)] dX11_priceFor_39 (by decide) rfl ?_
      refine gq_aload_n hC 2 dX11_priceFor_41 rfl rfl ?_
      refine gq_get hC (kf := 0) 0 hin_X11 rfl rfl (by decide) hw_9 rfl dX11_priceFor_42 ?_
      refine gq_iconst hC (3 : Int32) dX11_priceFor_45 (by decide) ?_
      refine gq_iload hC 0 dX11_priceFor_46 rfl ?_
      refine gq_i2l hC dX11_priceFor_48 ?_
      obtain ⟨hi_31, hF⟩ := gi_e hF
      refine gq_last hC 1 1 [(h_t_, .inr (11, [.ref h_a, .ref h_fresh, .ref h_kept, .int v_keptMany, .int st_22, .ref h_buffer, .int v_buffered, .int v_size, .int v_at, .int v_behind, .int v_kind, .int v_wrong, .int v_wrongAt, .int v_errorAt, .long v_number, .ref h_worthFrom, .ref h_cutsFrom, .ref h_endFrom, .ref h_changes, .ref h_waysFrom, .int v_toCut, .int v_toLeave, .ref h_costAt, .ref h_places, .ref h_isCut, .ref h_written, .int v_writtenMany])), (h_a, .inl (cJ, 499, .inr (.inl (vp_updL v_a_24 (3 : Int32).toNatClampNeg ((100 : Int32).toInt64))))), (h_worthFrom, .inl (cI, 33, .inl v_worthFrom_25)), (h_cutsFrom, .inl (cI, 33, .inl v_cutsFrom_26)), (h_endFrom, .inl (cI, 33, .inl v_endFrom_27)), (h_changes, .inl (cI, 32, .inl v_changes_28)), (h_waysFrom, .inl (cJ, 33, .inr (.inl v_waysFrom_29)))] rfl rfl hi_31 dX11_priceFor_49 rfl ?_
      have lp50 : ∀ (l2_32 : Int64) (v_thrown_34 : Int32), ∀ (e_59 : Int32) (e_60 : (Nat → Int64)) (e_61 : (Nat → Int32)) (e_62 : (Nat → Int32)) (e_63 : (Nat → Int32)) (e_64 : (Nat → Int32)) (e_65 : (Nat → Int64)), Gx p l e (rmD 6) s m args below meth c D A 5 Q 0 0 89 [(0, .ref h_t_), (2, .long l2_32), (4, .int e_59)] [] [(h_t_, .inr (11, [.ref h_a, .ref h_fresh, .ref h_kept, .int v_keptMany, .int v_thrown_34, .ref h_buffer, .int v_buffered, .int v_size, .int v_at, .int v_behind, .int v_kind, .int v_wrong, .int v_wrongAt, .int v_errorAt, .long v_number, .ref h_worthFrom, .ref h_cutsFrom, .ref h_endFrom, .ref h_changes, .ref h_waysFrom, .int v_toCut, .int v_toLeave, .ref h_costAt, .ref h_places, .ref h_isCut, .ref h_written, .int v_writtenMany])), (h_a, .inl (cJ, 499, .inr (.inl e_60))), (h_worthFrom, .inl (cI, 33, .inl e_61)), (h_cutsFrom, .inl (cI, 33, .inl e_62)), (h_endFrom, .inl (cI, 33, .inl e_63)), (h_changes, .inl (cI, 32, .inl e_64)), (h_waysFrom, .inl (cJ, 33, .inr (.inl e_65)))] → ∀ (N : Nat) (l4_33 : Int32) (v_a_35 : Nat → Int64) (v_worthFrom_36 : Nat → Int32) (v_cutsFrom_37 : Nat → Int32) (v_endFrom_38 : Nat → Int32) (v_changes_39 : Nat → Int32) (v_waysFrom_40 : Nat → Int64), wh (fun k q => S_X11_priceFor_50 x1 l2_32 v_thrown_34 v_toCut v_toLeave k q.1 q.2.1 q.2.2.1 q.2.2.2.1 q.2.2.2.2.1 q.2.2.2.2.2.1 q.2.2.2.2.2.2) N (l4_33, v_a_35, v_worthFrom_36, v_cutsFrom_37, v_endFrom_38, v_changes_39, v_waysFrom_40) = some (e_59, e_60, e_61, e_62, e_63, e_64, e_65) → Gx p l e (rmD 6) s m args below meth c D A 5 Q 0 0 50 [(0, .ref h_t_), (1, .int x1), (2, .long l2_32), (4, .int l4_33)] [] [(h_t_, .inr (11, [.ref h_a, .ref h_fresh, .ref h_kept, .int v_keptMany, .int v_thrown_34, .ref h_buffer, .int v_buffered, .int v_size, .int v_at, .int v_behind, .int v_kind, .int v_wrong, .int v_wrongAt, .int v_errorAt, .long v_number, .ref h_worthFrom, .ref h_cutsFrom, .ref h_endFrom, .ref h_changes, .ref h_waysFrom, .int v_toCut, .int v_toLeave, .ref h_costAt, .ref h_places, .ref h_isCut, .ref h_written, .int v_writtenMany])), (h_a, .inl (cJ, 499, .inr (.inl v_a_35))), (h_worthFrom, .inl (cI, 33, .inl v_worthFrom_36)), (h_cutsFrom, .inl (cI, 33, .inl v_cutsFrom_37)), (h_endFrom, .inl (cI, 33, .inl v_endFrom_38)), (h_changes, .inl (cI, 32, .inl v_changes_39)), (h_waysFrom, .inl (cJ, 33, .inr (.inl v_waysFrom_40)))] := by
        intro l2_32 v_thrown_34 e_59 e_60 e_61 e_62 e_63 e_64 e_65 hx0 N
        induction N with
        | zero => intro l4_33 v_a_35 v_worthFrom_36 v_cutsFrom_37 v_endFrom_38 v_changes_39 v_waysFrom_40 hw; exact absurd hw (wh_0 _ _ _)
        | succ N ih =>
          have jb74 : ∀ (l4_41 : Int32) (v_a_42 : Nat → Int64) (v_worthFrom_43 : Nat → Int32) (v_cutsFrom_44 : Nat → Int32) (v_endFrom_45 : Nat → Int32) (v_changes_46 : Nat → Int32) (v_waysFrom_47 : Nat → Int64), F_X11_priceFor_b74 (wh (fun k q => S_X11_priceFor_50 x1 l2_32 v_thrown_34 v_toCut v_toLeave k q.1 q.2.1 q.2.2.1 q.2.2.2.1 q.2.2.2.2.1 q.2.2.2.2.2.1 q.2.2.2.2.2.2) N) x1 l2_32 l4_41 v_thrown_34 v_toCut v_toLeave v_a_42 v_worthFrom_43 v_cutsFrom_44 v_endFrom_45 v_changes_46 v_waysFrom_47 = some (e_59, e_60, e_61, e_62, e_63, e_64, e_65) → Gx p l e (rmD 6) s m args below meth c D A 5 Q 0 0 74 [(0, .ref h_t_), (1, .int x1), (2, .long l2_32), (4, .int l4_41)] [] [(h_t_, .inr (11, [.ref h_a, .ref h_fresh, .ref h_kept, .int v_keptMany, .int v_thrown_34, .ref h_buffer, .int v_buffered, .int v_size, .int v_at, .int v_behind, .int v_kind, .int v_wrong, .int v_wrongAt, .int v_errorAt, .long v_number, .ref h_worthFrom, .ref h_cutsFrom, .ref h_endFrom, .ref h_changes, .ref h_waysFrom, .int v_toCut, .int v_toLeave, .ref h_costAt, .ref h_places, .ref h_isCut, .ref h_written, .int v_writtenMany])), (h_a, .inl (cJ, 499, .inr (.inl v_a_42))), (h_worthFrom, .inl (cI, 33, .inl v_worthFrom_43)), (h_cutsFrom, .inl (cI, 33, .inl v_cutsFrom_44)), (h_endFrom, .inl (cI, 33, .inl v_endFrom_45)), (h_changes, .inl (cI, 32, .inl v_changes_46)), (h_waysFrom, .inl (cJ, 33, .inr (.inl v_waysFrom_47)))] := by
            intro l4_41 v_a_42 v_worthFrom_43 v_cutsFrom_44 v_endFrom_45 v_changes_46 v_waysFrom_47 hF
            unfold F_X11_priceFor_b74 at hF
            refine gq_iinc hC 3 (l4_41 + (-1 : Int32)) [(4, .int (l4_41 + (-1 : Int32))), (0, .ref h_t_), (1, .int x1), (2, .long l2_32)] dX11_priceFor_74 rfl rfl (by decide) rfl ?_
            refine gq_aload_n hC 1 dX11_priceFor_77 rfl rfl ?_
            refine gq_get hC (kf := 0) 0 hin_X11 rfl rfl (by decide) hw_9 rfl dX11_priceFor_78 ?_
            refine gq_iconst hC (3 : Int32) dX11_priceFor_81 (by decide) ?_
            refine gq_iload hC 0 dX11_priceFor_82 rfl ?_
            refine gq_i2l hC dX11_priceFor_84 ?_
            obtain ⟨hi_48, hF⟩ := gi_e hF
            refine gq_last hC 1 1 [(h_t_, .inr (11, [.ref h_a, .ref h_fresh, .ref h_kept, .int v_keptMany, .int v_thrown_34, .ref h_buffer, .int v_buffered, .int v_size, .int v_at, .int v_behind, .int v_kind, .int v_wrong, .int v_wrongAt, .int v_errorAt, .long v_number, .ref h_worthFrom, .ref h_cutsFrom, .ref h_endFrom, .ref h_changes, .ref h_waysFrom, .int v_toCut, .int v_toLeave, .ref h_costAt, .ref h_places, .ref h_isCut, .ref h_written, .int v_writtenMany])), (h_a, .inl (cJ, 499, .inr (.inl (vp_updL v_a_42 (3 : Int32).toNatClampNeg ((l4_41 + (-1 : Int32)).toInt64))))), (h_worthFrom, .inl (cI, 33, .inl v_worthFrom_43)), (h_cutsFrom, .inl (cI, 33, .inl v_cutsFrom_44)), (h_endFrom, .inl (cI, 33, .inl v_endFrom_45)), (h_changes, .inl (cI, 32, .inl v_changes_46)), (h_waysFrom, .inl (cJ, 33, .inr (.inl v_waysFrom_47)))] rfl rfl hi_48 dX11_priceFor_85 rfl ?_
            refine gq_goto hC 50 dX11_priceFor_86 (by decide) ?_
            refine gq_sub [(0, .ref h_t_), (1, .int x1), (2, .long l2_32), (4, .int (l4_41 + (-1 : Int32)))] [1, 2, 3, 0] rfl ?_
            exact ih (l4_41 + (-1 : Int32)) (vp_updL v_a_42 (3 : Int32).toNatClampNeg ((l4_41 + (-1 : Int32)).toInt64)) v_worthFrom_43 v_cutsFrom_44 v_endFrom_45 v_changes_46 v_waysFrom_47 hF
          intro l4_33 v_a_35 v_worthFrom_36 v_cutsFrom_37 v_endFrom_38 v_changes_39 v_waysFrom_40 hw
          have hF : S_X11_priceFor_50 x1 l2_32 v_thrown_34 v_toCut v_toLeave (wh (fun k q => S_X11_priceFor_50 x1 l2_32 v_thrown_34 v_toCut v_toLeave k q.1 q.2.1 q.2.2.1 q.2.2.2.1 q.2.2.2.2.1 q.2.2.2.2.2.1 q.2.2.2.2.2.2) N) l4_33 v_a_35 v_worthFrom_36 v_cutsFrom_37 v_endFrom_38 v_changes_39 v_waysFrom_40 = some (e_59, e_60, e_61, e_62, e_63, e_64, e_65) := hw
          unfold S_X11_priceFor_50 at hF
          refine gq_iload hC 3 dX11_priceFor_50 rfl ?_
          refine gq_if_lt hC 89 dX11_priceFor_52 (by decide) (fun hc_58 => ?_) (fun hc_58 => ?_)
          · have hF := (if_pos hc_58).symm.trans hF
            refine gq_sub [(0, .ref h_t_), (2, .long l2_32), (4, .int l4_33)] [0, 2, 3] rfl ?_
            cases hF
            exact hx0
          · have hF := (if_neg hc_58).symm.trans hF
            refine gq_aload_n hC 0 dX11_priceFor_55 rfl rfl ?_
            obtain ⟨r_49, v_worthFrom_50, v_cutsFrom_51, v_endFrom_52, v_changes_53, v_waysFrom_54, hc_, hF⟩ := ob6_e hF
            refine gq_callVi hC [0, 1, 2, 3, 4, 5, 6] [(h_t_, .inr (11, [.ref h_a, .ref h_fresh, .ref h_kept, .int v_keptMany, .int v_thrown_34, .ref h_buffer, .int v_buffered, .int v_size, .int v_at, .int v_behind, .int v_kind, .int v_wrong, .int v_wrongAt, .int v_errorAt, .long v_number, .ref h_worthFrom, .ref h_cutsFrom, .ref h_endFrom, .ref h_changes, .ref h_waysFrom, .int v_toCut, .int v_toLeave, .ref h_costAt, .ref h_places, .ref h_isCut, .ref h_written, .int v_writtenMany])), (h_a, .inl (cJ, 499, .inr (.inl v_a_35))), (h_worthFrom, .inl (cI, 33, .inl v_worthFrom_50)), (h_cutsFrom, .inl (cI, 33, .inl v_cutsFrom_51)), (h_endFrom, .inl (cI, 33, .inl v_endFrom_52)), (h_changes, .inl (cI, 32, .inl v_changes_53)), (h_waysFrom, .inl (cJ, 33, .inr (.inl v_waysFrom_54)))] [] [] (k_X11_hasBest l D cI cJ cZ cO z h_t_ h_a h_worthFrom h_cutsFrom h_endFrom h_changes h_waysFrom h_fresh h_kept h_buffer h_costAt h_places h_isCut h_written v_keptMany v_thrown_34 v_buffered v_size v_at v_behind v_kind v_wrong v_wrongAt v_errorAt v_number v_toCut v_toLeave v_writtenMany v_a_35 v_worthFrom_36 v_cutsFrom_37 v_endFrom_38 v_changes_39 v_waysFrom_40 r_49 v_worthFrom_50 v_cutsFrom_51 v_endFrom_52 v_changes_53 v_waysFrom_54 hc_) gX11_priceFor_X11_hasBest rfl ⟨rfl, rfl⟩ hy_X11_hasBest ⟨Nat.le_of_ble_eq_true rfl, Nat.le_of_ble_eq_true rfl⟩ rfl rfl rfl (q0 := 0) rfl rfl rfl (Nat.le_of_ble_eq_true rfl) rfl dX11_priceFor_56 rfl rfl ?_
            refine gq_if_eq hC 74 dX11_priceFor_59 (by decide) (fun hc_57 => ?_) (fun hc_57 => ?_)
            · have hF := (if_pos hc_57).symm.trans hF
              exact jb74 l4_33 v_a_35 v_worthFrom_50 v_cutsFrom_51 v_endFrom_52 v_changes_53 v_waysFrom_54 hF
            · have hF := (if_neg hc_57).symm.trans hF
              refine gq_aload_n hC 0 dX11_priceFor_62 rfl rfl ?_
              refine gq_get hC (kf := 16) 0 hin_X11 rfl rfl (by decide) hw_30 rfl dX11_priceFor_63 ?_
              refine gq_iconst hC (0 : Int32) dX11_priceFor_66 (by decide) ?_
              obtain ⟨hi_55, hF⟩ := gi_e hF
              refine gq_iald hC 3 0 rfl rfl hi_55 dX11_priceFor_67 ?_
              refine gq_iconst hC (1 : Int32) dX11_priceFor_68 (by decide) ?_
              refine gq_iadd hC dX11_priceFor_69 ?_
              refine gq_iload_n hC 1 dX11_priceFor_70 rfl rfl ?_
              refine gq_icmp_ge hC 89 dX11_priceFor_71 (by decide) (fun hc_56 => ?_) (fun hc_56 => ?_)
              · have hF := (if_pos hc_56).symm.trans hF
                refine gq_sub [(0, .ref h_t_), (2, .long l2_32), (4, .int l4_33)] [0, 2, 3] rfl ?_
                cases hF
                exact hx0
              · have hF := (if_neg hc_56).symm.trans hF
                exact jb74 l4_33 v_a_35 v_worthFrom_50 v_cutsFrom_51 v_endFrom_52 v_changes_53 v_waysFrom_54 hF
      refine gq_sub [(0, .ref h_t_), (1, .int x1), (2, .long (v_a_24 (3 : Int32).toNatClampNeg)), (4, .int (100 : Int32))] [2, 3, 1, 0] rfl ?_
      obtain ⟨e_66, e_67, e_68, e_69, e_70, e_71, e_72, hw_, hF⟩ := ob7_e hF
      refine lp50 (v_a_24 (3 : Int32).toNatClampNeg) st_22 e_66 e_67 e_68 e_69 e_70 e_71 e_72 ?_ wF (100 : Int32) (vp_updL v_a_24 (3 : Int32).toNatClampNeg ((100 : Int32).toInt64)) v_worthFrom_25 v_cutsFrom_26 v_endFrom_27 v_changes_28 v_waysFrom_29 hw_
      exact jb89 (v_a_24 (3 : Int32).toNatClampNeg) e_66 st_22 e_67 e_68 e_69 e_70 e_71 e_72 hF
    · have hF := (if_neg hc_73).symm.trans hF
      refine gq_iconst hC (0 : Int32) dX11_priceFor_28 (by decide) ?_
      cases hF
      rw [hQ]
      exact gq_iret hC rfl dX11_priceFor_29
  unfold F_X11_priceFor at hF
  refine gq_aload_n hC 0 dX11_priceFor_0 rfl rfl ?_
  refine gq_iload_n hC 1 dX11_priceFor_1 rfl rfl ?_
  refine gq_i2l hC dX11_priceFor_2 ?_
  refine gq_lconst hC (1 : Int64) dX11_priceFor_3 (by decide) ?_
  refine gq_ldc2 hC (32 : Int64) dX11_priceFor_4 (by decide +kernel) ?_
  obtain ⟨r_74, hc_, hF⟩ := ob1_e hF
  refine gq_callSi hC [] [(h_t_, .inr (11, [.ref h_a, .ref h_fresh, .ref h_kept, .int v_keptMany, .int v_thrown, .ref h_buffer, .int v_buffered, .int v_size, .int v_at, .int v_behind, .int v_kind, .int v_wrong, .int v_wrongAt, .int v_errorAt, .long v_number, .ref h_worthFrom, .ref h_cutsFrom, .ref h_endFrom, .ref h_changes, .ref h_waysFrom, .int v_toCut, .int v_toLeave, .ref h_costAt, .ref h_places, .ref h_isCut, .ref h_written, .int v_writtenMany])), (h_a, .inl (cJ, 499, .inr (.inl v_a))), (h_worthFrom, .inl (cI, 33, .inl v_worthFrom)), (h_cutsFrom, .inl (cI, 33, .inl v_cutsFrom)), (h_endFrom, .inl (cI, 33, .inl v_endFrom)), (h_changes, .inl (cI, 32, .inl v_changes)), (h_waysFrom, .inl (cJ, 33, .inr (.inl v_waysFrom)))] [.long (x1.toInt64), .long (1 : Int64), .long (32 : Int64)] [.ref h_t_] (k_X11_isIn l D cI cJ cZ cO z  (x1.toInt64) (1 : Int64) (32 : Int64) r_74 hc_) gX11_priceFor_X11_isIn rfl ⟨rfl, rfl⟩ hy_X11_isIn rfl ⟨Nat.le_of_ble_eq_true rfl, Nat.le_of_ble_eq_true rfl⟩ rfl rfl rfl (Nat.le_of_ble_eq_true rfl) rfl dX11_priceFor_7 rfl rfl ?_
  refine gq_if_eq hC 17 dX11_priceFor_10 (by decide) (fun hc_75 => ?_) (fun hc_75 => ?_)
  · have hF := (if_pos hc_75).symm.trans hF
    refine gq_iconst hC (1 : Int32) dX11_priceFor_17 (by decide) ?_
    exact jb18 (1 : Int32) v_thrown v_a v_worthFrom v_cutsFrom v_endFrom v_changes v_waysFrom hF
  · have hF := (if_neg hc_75).symm.trans hF
    refine gq_iconst hC (0 : Int32) dX11_priceFor_13 (by decide) ?_
    refine gq_goto hC 18 dX11_priceFor_14 (by decide) ?_
    exact jb18 (0 : Int32) v_thrown v_a v_worthFrom v_cutsFrom v_endFrom v_changes v_waysFrom hF
theorem hy_X11_chaptersOf : yX11_chaptersOf.cls = RX11 ∧ yX11_chaptersOf.cls ≠ "java/lang/invoke/MethodHandle" ∧ yX11_chaptersOf.cls ≠ "java/lang/invoke/VarHandle" ∧ (parseMethodDescriptor yX11_chaptersOf.desc).map (fun d => d.parameters.length) = some 1 := by decide +kernel
set_option maxRecDepth 20000 in
set_option maxHeartbeats 4000000 in
theorem k_X11_chaptersOf (l : Launch) (D : va_G) (cI cJ cZ cO : ClassId) (z : Nat → Nat)   (h_t_ : Nat) (h_a : Nat) (h_cutsFrom : Nat) (h_endFrom : Nat) (h_fresh : Nat) (h_kept : Nat) (h_buffer : Nat) (h_worthFrom : Nat) (h_changes : Nat) (h_waysFrom : Nat) (h_costAt : Nat) (h_places : Nat) (h_isCut : Nat) (h_written : Nat) (x1 : Int32) (v_keptMany : Int32) (v_thrown : Int32) (v_buffered : Int32) (v_size : Int32) (v_at : Int32) (v_behind : Int32) (v_kind : Int32) (v_wrong : Int32) (v_wrongAt : Int32) (v_errorAt : Int32) (v_number : Int64) (v_toCut : Int32) (v_toLeave : Int32) (v_writtenMany : Int32) (v_a : Nat → Int64) (v_cutsFrom : Nat → Int32) (v_endFrom : Nat → Int32) (r_ : Int32) (hF : F_X11_chaptersOf x1 v_a v_cutsFrom v_endFrom = some r_) : Mi l yX11_chaptersOf wsX11_chaptersOf (rmD 2) D (gq_ty cI cJ cZ cO) z [.ref h_t_, .int x1] [(h_t_, .inr (11, [.ref h_a, .ref h_fresh, .ref h_kept, .int v_keptMany, .int v_thrown, .ref h_buffer, .int v_buffered, .int v_size, .int v_at, .int v_behind, .int v_kind, .int v_wrong, .int v_wrongAt, .int v_errorAt, .long v_number, .ref h_worthFrom, .ref h_cutsFrom, .ref h_endFrom, .ref h_changes, .ref h_waysFrom, .int v_toCut, .int v_toLeave, .ref h_costAt, .ref h_places, .ref h_isCut, .ref h_written, .int v_writtenMany])), (h_a, .inl (cJ, 499, .inr (.inl v_a))), (h_cutsFrom, .inl (cI, 33, .inl v_cutsFrom)), (h_endFrom, .inl (cI, 33, .inl v_endFrom))] r_ [(h_t_, .inr (11, [.ref h_a, .ref h_fresh, .ref h_kept, .int v_keptMany, .int v_thrown, .ref h_buffer, .int v_buffered, .int v_size, .int v_at, .int v_behind, .int v_kind, .int v_wrong, .int v_wrongAt, .int v_errorAt, .long v_number, .ref h_worthFrom, .ref h_cutsFrom, .ref h_endFrom, .ref h_changes, .ref h_waysFrom, .int v_toCut, .int v_toLeave, .ref h_costAt, .ref h_places, .ref h_isCut, .ref h_written, .int v_writtenMany])), (h_a, .inl (cJ, 499, .inr (.inl v_a))), (h_cutsFrom, .inl (cI, 33, .inl v_cutsFrom)), (h_endFrom, .inl (cI, 33, .inl v_endFrom))] 0 0 := by
  refine Mi.of (cc := cX11_chaptersOf) (maxL := 4) (by decide) rfl (Nat.le_of_ble_eq_true rfl) ⟨Nat.le_refl 0, Nat.le_refl 0⟩ ?_
  intro p e s m args below meth c A hC ha
  have hin_X11 : ∀ w ∈ wsX110, w ∈ wsX11_chaptersOf := by decide +kernel
  have hw_30 : Cond.fieldLink RX11 30 (TX11 16).1 (TX11 16).2.1 (TX11 16).2.2.1 ∈ wsX11_chaptersOf := by decide +kernel
  have hw_33 : Cond.fieldLink RX11 33 (TX11 17).1 (TX11 17).2.1 (TX11 17).2.2.1 ∈ wsX11_chaptersOf := by decide +kernel
  obtain ⟨Q, hQ⟩ : ∃ Q, Q = gq_Qi below D A args s r_ [(h_t_, .inr (11, [.ref h_a, .ref h_fresh, .ref h_kept, .int v_keptMany, .int v_thrown, .ref h_buffer, .int v_buffered, .int v_size, .int v_at, .int v_behind, .int v_kind, .int v_wrong, .int v_wrongAt, .int v_errorAt, .long v_number, .ref h_worthFrom, .ref h_cutsFrom, .ref h_endFrom, .ref h_changes, .ref h_waysFrom, .int v_toCut, .int v_toLeave, .ref h_costAt, .ref h_places, .ref h_isCut, .ref h_written, .int v_writtenMany])), (h_a, .inl (cJ, 499, .inr (.inl v_a))), (h_cutsFrom, .inl (cI, 33, .inl v_cutsFrom)), (h_endFrom, .inl (cI, 33, .inl v_endFrom))] 0 0 := ⟨_, rfl⟩
  rw [← hQ]
  refine gq_loc [(0, .ref h_t_), (1, .int x1)] rfl ?_
  unfold F_X11_chaptersOf at hF
  refine gq_iconst hC (0 : Int32) dX11_chaptersOf_0 (by decide) ?_
  refine gq_istore_n hC [(2, .int (0 : Int32)), (0, .ref h_t_), (1, .int x1)] dX11_chaptersOf_1 rfl (by decide) rfl ?_
  refine gq_iconst hC (0 : Int32) dX11_chaptersOf_2 (by decide) ?_
  refine gq_istore_n hC [(3, .int (0 : Int32)), (2, .int (0 : Int32)), (0, .ref h_t_), (1, .int x1)] dX11_chaptersOf_3 rfl (by decide) rfl ?_
  have lp4 : ∀ (e_10 : Int32), Gx p l e (rmD 2) s m args below meth c D A 4 Q 0 0 51 [(2, .int e_10)] [] [(h_t_, .inr (11, [.ref h_a, .ref h_fresh, .ref h_kept, .int v_keptMany, .int v_thrown, .ref h_buffer, .int v_buffered, .int v_size, .int v_at, .int v_behind, .int v_kind, .int v_wrong, .int v_wrongAt, .int v_errorAt, .long v_number, .ref h_worthFrom, .ref h_cutsFrom, .ref h_endFrom, .ref h_changes, .ref h_waysFrom, .int v_toCut, .int v_toLeave, .ref h_costAt, .ref h_places, .ref h_isCut, .ref h_written, .int v_writtenMany])), (h_a, .inl (cJ, 499, .inr (.inl v_a))), (h_cutsFrom, .inl (cI, 33, .inl v_cutsFrom)), (h_endFrom, .inl (cI, 33, .inl v_endFrom))] → ∀ (N : Nat) (l2_1 : Int32) (l3_2 : Int32), wh (fun k q => S_X11_chaptersOf_4 x1 v_a v_cutsFrom v_endFrom k q.1 q.2) N (l2_1, l3_2) = some e_10 → Gx p l e (rmD 2) s m args below meth c D A 4 Q 0 0 4 [(0, .ref h_t_), (1, .int x1), (2, .int l2_1), (3, .int l3_2)] [] [(h_t_, .inr (11, [.ref h_a, .ref h_fresh, .ref h_kept, .int v_keptMany, .int v_thrown, .ref h_buffer, .int v_buffered, .int v_size, .int v_at, .int v_behind, .int v_kind, .int v_wrong, .int v_wrongAt, .int v_errorAt, .long v_number, .ref h_worthFrom, .ref h_cutsFrom, .ref h_endFrom, .ref h_changes, .ref h_waysFrom, .int v_toCut, .int v_toLeave, .ref h_costAt, .ref h_places, .ref h_isCut, .ref h_written, .int v_writtenMany])), (h_a, .inl (cJ, 499, .inr (.inl v_a))), (h_cutsFrom, .inl (cI, 33, .inl v_cutsFrom)), (h_endFrom, .inl (cI, 33, .inl v_endFrom))] := by
    intro e_10 hx0 N
    induction N with
    | zero => intro l2_1 l3_2 hw; exact absurd hw (wh_0 _ _ _)
    | succ N ih =>
      intro l2_1 l3_2 hw
      have hF : S_X11_chaptersOf_4 x1 v_a v_cutsFrom v_endFrom (wh (fun k q => S_X11_chaptersOf_4 x1 v_a v_cutsFrom v_endFrom k q.1 q.2) N) l2_1 l3_2 = some e_10 := hw
      unfold S_X11_chaptersOf_4 at hF
      refine gq_iload_n hC 3 dX11_chaptersOf_4 rfl rfl ?_
      refine gq_aload_n hC 0 dX11_chaptersOf_5 rfl rfl ?_
      refine gq_get hC (kf := 16) 0 hin_X11 rfl rfl (by decide) hw_30 rfl dX11_chaptersOf_6 ?_
      refine gq_iconst hC (0 : Int32) dX11_chaptersOf_9 (by decide) ?_
      obtain ⟨hi_3, hF⟩ := gi_e hF
      refine gq_iald hC 2 0 rfl rfl hi_3 dX11_chaptersOf_10 ?_
      refine gq_icmp_gt hC 51 dX11_chaptersOf_11 (by decide) (fun hc_9 => ?_) (fun hc_9 => ?_)
      · have hF := (if_pos hc_9).symm.trans hF
        refine gq_sub [(2, .int l2_1)] [2] rfl ?_
        cases hF
        exact hx0
      · have hF := (if_neg hc_9).symm.trans hF
        refine gq_iload_n hC 2 dX11_chaptersOf_14 rfl rfl ?_
        refine gq_aload_n hC 0 dX11_chaptersOf_15 rfl rfl ?_
        refine gq_iload_n hC 1 dX11_chaptersOf_16 rfl rfl ?_
        refine gq_aload_n hC 0 dX11_chaptersOf_17 rfl rfl ?_
        refine gq_iload_n hC 3 dX11_chaptersOf_18 rfl rfl ?_
        obtain ⟨r_4, hc_, hF⟩ := ob1_e hF
        refine gq_callVi hC [0, 3] [(h_t_, .inr (11, [.ref h_a, .ref h_fresh, .ref h_kept, .int v_keptMany, .int v_thrown, .ref h_buffer, .int v_buffered, .int v_size, .int v_at, .int v_behind, .int v_kind, .int v_wrong, .int v_wrongAt, .int v_errorAt, .long v_number, .ref h_worthFrom, .ref h_cutsFrom, .ref h_endFrom, .ref h_changes, .ref h_waysFrom, .int v_toCut, .int v_toLeave, .ref h_costAt, .ref h_places, .ref h_isCut, .ref h_written, .int v_writtenMany])), (h_a, .inl (cJ, 499, .inr (.inl v_a))), (h_cutsFrom, .inl (cI, 33, .inl v_cutsFrom)), (h_endFrom, .inl (cI, 33, .inl v_endFrom))] [.int l3_2] [.int x1, .ref h_t_, .int l2_1] (k_X11_beginOf l D cI cJ cZ cO z h_t_ h_endFrom h_a h_fresh h_kept h_buffer h_worthFrom h_cutsFrom h_changes h_waysFrom h_costAt h_places h_isCut h_written l3_2 v_keptMany v_thrown v_buffered v_size v_at v_behind v_kind v_wrong v_wrongAt v_errorAt v_number v_toCut v_toLeave v_writtenMany v_endFrom r_4 hc_) gX11_chaptersOf_X11_beginOf rfl ⟨rfl, rfl⟩ hy_X11_beginOf ⟨Nat.le_of_ble_eq_true rfl, Nat.le_of_ble_eq_true rfl⟩ rfl rfl rfl (q0 := 0) rfl rfl rfl (Nat.le_of_ble_eq_true rfl) rfl dX11_chaptersOf_19 rfl rfl ?_
        refine gq_aload_n hC 0 dX11_chaptersOf_22 rfl rfl ?_
        refine gq_get hC (kf := 17) 0 hin_X11 rfl rfl (by decide) hw_33 rfl dX11_chaptersOf_23 ?_
        refine gq_aload_n hC 0 dX11_chaptersOf_26 rfl rfl ?_
        refine gq_iload_n hC 3 dX11_chaptersOf_27 rfl rfl ?_
        obtain ⟨r_5, hc_, hF⟩ := ob1_e hF
        refine gq_callVi hC [0, 3] [(h_t_, .inr (11, [.ref h_a, .ref h_fresh, .ref h_kept, .int v_keptMany, .int v_thrown, .ref h_buffer, .int v_buffered, .int v_size, .int v_at, .int v_behind, .int v_kind, .int v_wrong, .int v_wrongAt, .int v_errorAt, .long v_number, .ref h_worthFrom, .ref h_cutsFrom, .ref h_endFrom, .ref h_changes, .ref h_waysFrom, .int v_toCut, .int v_toLeave, .ref h_costAt, .ref h_places, .ref h_isCut, .ref h_written, .int v_writtenMany])), (h_a, .inl (cJ, 499, .inr (.inl v_a))), (h_cutsFrom, .inl (cI, 33, .inl v_cutsFrom)), (h_endFrom, .inl (cI, 33, .inl v_endFrom))] [.int l3_2] [.ref h_endFrom, .int r_4, .int x1, .ref h_t_, .int l2_1] (k_X11_beginOf l D cI cJ cZ cO z h_t_ h_endFrom h_a h_fresh h_kept h_buffer h_worthFrom h_cutsFrom h_changes h_waysFrom h_costAt h_places h_isCut h_written l3_2 v_keptMany v_thrown v_buffered v_size v_at v_behind v_kind v_wrong v_wrongAt v_errorAt v_number v_toCut v_toLeave v_writtenMany v_endFrom r_5 hc_) gX11_chaptersOf_X11_beginOf rfl ⟨rfl, rfl⟩ hy_X11_beginOf ⟨Nat.le_of_ble_eq_true rfl, Nat.le_of_ble_eq_true rfl⟩ rfl rfl rfl (q0 := 0) rfl rfl rfl (Nat.le_of_ble_eq_true rfl) rfl dX11_chaptersOf_28 rfl rfl ?_
        obtain ⟨hi_6, hF⟩ := gi_e hF
        refine gq_iald hC 3 0 rfl rfl hi_6 dX11_chaptersOf_31 ?_
        obtain ⟨r_7, hc_, hF⟩ := ob1_e hF
        refine gq_callVi hC [0, 1] [(h_t_, .inr (11, [.ref h_a, .ref h_fresh, .ref h_kept, .int v_keptMany, .int v_thrown, .ref h_buffer, .int v_buffered, .int v_size, .int v_at, .int v_behind, .int v_kind, .int v_wrong, .int v_wrongAt, .int v_errorAt, .long v_number, .ref h_worthFrom, .ref h_cutsFrom, .ref h_endFrom, .ref h_changes, .ref h_waysFrom, .int v_toCut, .int v_toLeave, .ref h_costAt, .ref h_places, .ref h_isCut, .ref h_written, .int v_writtenMany])), (h_a, .inl (cJ, 499, .inr (.inl v_a))), (h_cutsFrom, .inl (cI, 33, .inl v_cutsFrom)), (h_endFrom, .inl (cI, 33, .inl v_endFrom))] [.int x1, .int r_4, .int (v_endFrom r_5.toNatClampNeg)] [.int l2_1] (k_X11_usesIn l D cI cJ cZ cO z h_t_ h_a h_fresh h_kept h_buffer h_worthFrom h_cutsFrom h_endFrom h_changes h_waysFrom h_costAt h_places h_isCut h_written x1 r_4 (v_endFrom r_5.toNatClampNeg) v_keptMany v_thrown v_buffered v_size v_at v_behind v_kind v_wrong v_wrongAt v_errorAt v_number v_toCut v_toLeave v_writtenMany v_a r_7 hc_) gX11_chaptersOf_X11_usesIn rfl ⟨rfl, rfl⟩ hy_X11_usesIn ⟨Nat.le_of_ble_eq_true rfl, Nat.le_of_ble_eq_true rfl⟩ rfl rfl rfl (q0 := 0) rfl rfl rfl (Nat.le_of_ble_eq_true rfl) rfl dX11_chaptersOf_32 rfl rfl ?_
        refine gq_if_le hC 42 dX11_chaptersOf_35 (by decide) (fun hc_8 => ?_) (fun hc_8 => ?_)
        · have hF := (if_pos hc_8).symm.trans hF
          refine gq_iconst hC (0 : Int32) dX11_chaptersOf_42 (by decide) ?_
          refine gq_iadd hC dX11_chaptersOf_43 ?_
          refine gq_istore_n hC [(2, .int (l2_1 + (0 : Int32))), (0, .ref h_t_), (1, .int x1), (3, .int l3_2)] dX11_chaptersOf_44 rfl (by decide) rfl ?_
          refine gq_iinc hC 3 (l3_2 + (1 : Int32)) [(3, .int (l3_2 + (1 : Int32))), (2, .int (l2_1 + (0 : Int32))), (0, .ref h_t_), (1, .int x1)] dX11_chaptersOf_45 rfl rfl (by decide) rfl ?_
          refine gq_goto hC 4 dX11_chaptersOf_48 (by decide) ?_
          refine gq_sub [(0, .ref h_t_), (1, .int x1), (2, .int (l2_1 + (0 : Int32))), (3, .int (l3_2 + (1 : Int32)))] [2, 3, 1, 0] rfl ?_
          exact ih (l2_1 + (0 : Int32)) (l3_2 + (1 : Int32)) hF
        · have hF := (if_neg hc_8).symm.trans hF
          refine gq_iconst hC (1 : Int32) dX11_chaptersOf_38 (by decide) ?_
          refine gq_goto hC 43 dX11_chaptersOf_39 (by decide) ?_
          refine gq_iadd hC dX11_chaptersOf_43 ?_
          refine gq_istore_n hC [(2, .int (l2_1 + (1 : Int32))), (0, .ref h_t_), (1, .int x1), (3, .int l3_2)] dX11_chaptersOf_44 rfl (by decide) rfl ?_
          refine gq_iinc hC 3 (l3_2 + (1 : Int32)) [(3, .int (l3_2 + (1 : Int32))), (2, .int (l2_1 + (1 : Int32))), (0, .ref h_t_), (1, .int x1)] dX11_chaptersOf_45 rfl rfl (by decide) rfl ?_
          refine gq_goto hC 4 dX11_chaptersOf_48 (by decide) ?_
          refine gq_sub [(0, .ref h_t_), (1, .int x1), (2, .int (l2_1 + (1 : Int32))), (3, .int (l3_2 + (1 : Int32)))] [2, 3, 1, 0] rfl ?_
          exact ih (l2_1 + (1 : Int32)) (l3_2 + (1 : Int32)) hF
  refine gq_sub [(0, .ref h_t_), (1, .int x1), (2, .int (0 : Int32)), (3, .int (0 : Int32))] [2, 3, 1, 0] rfl ?_
  obtain ⟨e_11, hw_, hF⟩ := ob1_e hF
  refine lp4  e_11 ?_ wF (0 : Int32) (0 : Int32) hw_
  refine gq_iload_n hC 0 dX11_chaptersOf_51 rfl rfl ?_
  cases hF
  rw [hQ]
  exact gq_iret hC rfl dX11_chaptersOf_52
theorem hy_X11_chaptersWith : yX11_chaptersWith.cls = RX11 ∧ yX11_chaptersWith.cls ≠ "java/lang/invoke/MethodHandle" ∧ yX11_chaptersWith.cls ≠ "java/lang/invoke/VarHandle" ∧ (parseMethodDescriptor yX11_chaptersWith.desc).map (fun d => d.parameters.length) = some 1 := by decide +kernel
set_option maxRecDepth 20000 in
set_option maxHeartbeats 4000000 in
theorem k_X11_chaptersWith (l : Launch) (D : va_G) (cI cJ cZ cO : ClassId) (z : Nat → Nat)   (h_t_ : Nat) (h_a : Nat) (h_worthFrom : Nat) (h_cutsFrom : Nat) (h_endFrom : Nat) (h_changes : Nat) (h_waysFrom : Nat) (h_fresh : Nat) (h_kept : Nat) (h_buffer : Nat) (h_costAt : Nat) (h_places : Nat) (h_isCut : Nat) (h_written : Nat) (x1 : Int32) (v_keptMany : Int32) (v_thrown : Int32) (v_buffered : Int32) (v_size : Int32) (v_at : Int32) (v_behind : Int32) (v_kind : Int32) (v_wrong : Int32) (v_wrongAt : Int32) (v_errorAt : Int32) (v_number : Int64) (v_toCut : Int32) (v_toLeave : Int32) (v_writtenMany : Int32) (v_a : Nat → Int64) (v_worthFrom : Nat → Int32) (v_cutsFrom : Nat → Int32) (v_endFrom : Nat → Int32) (v_changes : Nat → Int32) (v_waysFrom : Nat → Int64) (r_ : Int32) (w_thrown : Int32) (w_worthFrom : Nat → Int32) (w_cutsFrom : Nat → Int32) (w_endFrom : Nat → Int32) (w_changes : Nat → Int32) (w_waysFrom : Nat → Int64) (hF : F_X11_chaptersWith x1 v_thrown v_toCut v_toLeave v_a v_worthFrom v_cutsFrom v_endFrom v_changes v_waysFrom = some (r_, w_thrown, w_worthFrom, w_cutsFrom, w_endFrom, w_changes, w_waysFrom)) : Mi l yX11_chaptersWith wsX11_chaptersWith (rmD 6) D (gq_ty cI cJ cZ cO) z [.ref h_t_, .int x1] [(h_t_, .inr (11, [.ref h_a, .ref h_fresh, .ref h_kept, .int v_keptMany, .int v_thrown, .ref h_buffer, .int v_buffered, .int v_size, .int v_at, .int v_behind, .int v_kind, .int v_wrong, .int v_wrongAt, .int v_errorAt, .long v_number, .ref h_worthFrom, .ref h_cutsFrom, .ref h_endFrom, .ref h_changes, .ref h_waysFrom, .int v_toCut, .int v_toLeave, .ref h_costAt, .ref h_places, .ref h_isCut, .ref h_written, .int v_writtenMany])), (h_a, .inl (cJ, 499, .inr (.inl v_a))), (h_worthFrom, .inl (cI, 33, .inl v_worthFrom)), (h_cutsFrom, .inl (cI, 33, .inl v_cutsFrom)), (h_endFrom, .inl (cI, 33, .inl v_endFrom)), (h_changes, .inl (cI, 32, .inl v_changes)), (h_waysFrom, .inl (cJ, 33, .inr (.inl v_waysFrom)))] r_ [(h_t_, .inr (11, [.ref h_a, .ref h_fresh, .ref h_kept, .int v_keptMany, .int w_thrown, .ref h_buffer, .int v_buffered, .int v_size, .int v_at, .int v_behind, .int v_kind, .int v_wrong, .int v_wrongAt, .int v_errorAt, .long v_number, .ref h_worthFrom, .ref h_cutsFrom, .ref h_endFrom, .ref h_changes, .ref h_waysFrom, .int v_toCut, .int v_toLeave, .ref h_costAt, .ref h_places, .ref h_isCut, .ref h_written, .int v_writtenMany])), (h_a, .inl (cJ, 499, .inr (.inl v_a))), (h_worthFrom, .inl (cI, 33, .inl w_worthFrom)), (h_cutsFrom, .inl (cI, 33, .inl w_cutsFrom)), (h_endFrom, .inl (cI, 33, .inl w_endFrom)), (h_changes, .inl (cI, 32, .inl w_changes)), (h_waysFrom, .inl (cJ, 33, .inr (.inl w_waysFrom)))] 0 0 := by
  refine Mi.of (cc := cX11_chaptersWith) (maxL := 2) (by decide) rfl (Nat.le_of_ble_eq_true rfl) ⟨Nat.le_refl 0, Nat.le_refl 0⟩ ?_
  intro p e s m args below meth c A hC ha
  have hin_X11 : ∀ w ∈ wsX110, w ∈ wsX11_chaptersWith := by decide +kernel
  have hw_79 : Cond.fieldLink RX11 79 (TX11 4).1 (TX11 4).2.1 (TX11 4).2.2.1 ∈ wsX11_chaptersWith := by decide +kernel
  obtain ⟨Q, hQ⟩ : ∃ Q, Q = gq_Qi below D A args s r_ [(h_t_, .inr (11, [.ref h_a, .ref h_fresh, .ref h_kept, .int v_keptMany, .int w_thrown, .ref h_buffer, .int v_buffered, .int v_size, .int v_at, .int v_behind, .int v_kind, .int v_wrong, .int v_wrongAt, .int v_errorAt, .long v_number, .ref h_worthFrom, .ref h_cutsFrom, .ref h_endFrom, .ref h_changes, .ref h_waysFrom, .int v_toCut, .int v_toLeave, .ref h_costAt, .ref h_places, .ref h_isCut, .ref h_written, .int v_writtenMany])), (h_a, .inl (cJ, 499, .inr (.inl v_a))), (h_worthFrom, .inl (cI, 33, .inl w_worthFrom)), (h_cutsFrom, .inl (cI, 33, .inl w_cutsFrom)), (h_endFrom, .inl (cI, 33, .inl w_endFrom)), (h_changes, .inl (cI, 32, .inl w_changes)), (h_waysFrom, .inl (cJ, 33, .inr (.inl w_waysFrom)))] 0 0 := ⟨_, rfl⟩
  rw [← hQ]
  refine gq_loc [(0, .ref h_t_), (1, .int x1)] rfl ?_
  have jb25 : ∀ (st_1 : Int32) (v_thrown_2 : Int32) (v_worthFrom_3 : Nat → Int32) (v_cutsFrom_4 : Nat → Int32) (v_endFrom_5 : Nat → Int32) (v_changes_6 : Nat → Int32) (v_waysFrom_7 : Nat → Int64), F_X11_chaptersWith_b25 x1 st_1 v_thrown_2 v_a v_worthFrom_3 v_cutsFrom_4 v_endFrom_5 v_changes_6 v_waysFrom_7 = some (r_, w_thrown, w_worthFrom, w_cutsFrom, w_endFrom, w_changes, w_waysFrom) → Gx p l e (rmD 6) s m args below meth c D A 2 Q 0 0 25 [(0, .ref h_t_), (1, .int x1)] [.int st_1, .ref h_t_] [(h_t_, .inr (11, [.ref h_a, .ref h_fresh, .ref h_kept, .int v_keptMany, .int v_thrown_2, .ref h_buffer, .int v_buffered, .int v_size, .int v_at, .int v_behind, .int v_kind, .int v_wrong, .int v_wrongAt, .int v_errorAt, .long v_number, .ref h_worthFrom, .ref h_cutsFrom, .ref h_endFrom, .ref h_changes, .ref h_waysFrom, .int v_toCut, .int v_toLeave, .ref h_costAt, .ref h_places, .ref h_isCut, .ref h_written, .int v_writtenMany])), (h_a, .inl (cJ, 499, .inr (.inl v_a))), (h_worthFrom, .inl (cI, 33, .inl v_worthFrom_3)), (h_cutsFrom, .inl (cI, 33, .inl v_cutsFrom_4)), (h_endFrom, .inl (cI, 33, .inl v_endFrom_5)), (h_changes, .inl (cI, 32, .inl v_changes_6)), (h_waysFrom, .inl (cJ, 33, .inr (.inl v_waysFrom_7)))] := by
    intro st_1 v_thrown_2 v_worthFrom_3 v_cutsFrom_4 v_endFrom_5 v_changes_6 v_waysFrom_7 hF
    unfold F_X11_chaptersWith_b25 at hF
    refine gq_put1 hC (kf := 4) 0 [(h_t_, .inr (11, [.ref h_a, .ref h_fresh, .ref h_kept, .int v_keptMany, .int st_1, .ref h_buffer, .int v_buffered, .int v_size, .int v_at, .int v_behind, .int v_kind, .int v_wrong, .int v_wrongAt, .int v_errorAt, .long v_number, .ref h_worthFrom, .ref h_cutsFrom, .ref h_endFrom, .ref h_changes, .ref h_waysFrom, .int v_toCut, .int v_toLeave, .ref h_costAt, .ref h_places, .ref h_isCut, .ref h_written, .int v_writtenMany])), (h_a, .inl (cJ, 499, .inr (.inl v_a))), (h_worthFrom, .inl (cI, 33, .inl v_worthFrom_3)), (h_cutsFrom, .inl (cI, 33, .inl v_cutsFrom_4)), (h_endFrom, .inl (cI, 33, .inl v_endFrom_5)), (h_changes, .inl (cI, 32, .inl v_changes_6)), (h_waysFrom, .inl (cJ, 33, .inr (.inl v_waysFrom_7)))] tyX11 tyX11_ok nmX11 hin_X11 rfl rfl (by decide) hw_79 rfl rfl rfl (Nat.le_of_ble_eq_true rfl) dX11_chaptersWith_25 rfl ?_
    refine gq_aload_n hC 0 dX11_chaptersWith_28 rfl rfl ?_
    refine gq_get hC (kf := 4) 0 hin_X11 rfl rfl (by decide) hw_79 rfl dX11_chaptersWith_29 ?_
    refine gq_if_le hC 39 dX11_chaptersWith_32 (by decide) (fun hc_9 => ?_) (fun hc_9 => ?_)
    · have hF := (if_pos hc_9).symm.trans hF
      refine gq_aload_n hC 0 dX11_chaptersWith_39 rfl rfl ?_
      refine gq_iload_n hC 1 dX11_chaptersWith_40 rfl rfl ?_
      obtain ⟨r_8, hc_, hF⟩ := ob1_e hF
      refine gq_callVi hC [0, 1, 3, 4] [(h_t_, .inr (11, [.ref h_a, .ref h_fresh, .ref h_kept, .int v_keptMany, .int st_1, .ref h_buffer, .int v_buffered, .int v_size, .int v_at, .int v_behind, .int v_kind, .int v_wrong, .int v_wrongAt, .int v_errorAt, .long v_number, .ref h_worthFrom, .ref h_cutsFrom, .ref h_endFrom, .ref h_changes, .ref h_waysFrom, .int v_toCut, .int v_toLeave, .ref h_costAt, .ref h_places, .ref h_isCut, .ref h_written, .int v_writtenMany])), (h_a, .inl (cJ, 499, .inr (.inl v_a))), (h_worthFrom, .inl (cI, 33, .inl v_worthFrom_3)), (h_cutsFrom, .inl (cI, 33, .inl v_cutsFrom_4)), (h_endFrom, .inl (cI, 33, .inl v_endFrom_5)), (h_changes, .inl (cI, 32, .inl v_changes_6)), (h_waysFrom, .inl (cJ, 33, .inr (.inl v_waysFrom_7)))] [.int x1] [] (k_X11_chaptersOf l D cI cJ cZ cO z h_t_ h_a h_cutsFrom h_endFrom h_fresh h_kept h_buffer h_worthFrom h_changes h_waysFrom h_costAt h_places h_isCut h_written x1 v_keptMany st_1 v_buffered v_size v_at v_behind v_kind v_wrong v_wrongAt v_errorAt v_number v_toCut v_toLeave v_writtenMany v_a v_cutsFrom_4 v_endFrom_5 r_8 hc_) gX11_chaptersWith_X11_chaptersOf rfl ⟨rfl, rfl⟩ hy_X11_chaptersOf ⟨Nat.le_of_ble_eq_true rfl, Nat.le_of_ble_eq_true rfl⟩ rfl rfl rfl (q0 := 0) rfl rfl rfl (Nat.le_of_ble_eq_true rfl) rfl dX11_chaptersWith_41 rfl rfl ?_
      cases hF
      rw [hQ]
      exact gq_iret hC rfl dX11_chaptersWith_44
    · have hF := (if_neg hc_9).symm.trans hF
      refine gq_iconst hC (0 : Int32) dX11_chaptersWith_35 (by decide) ?_
      refine gq_goto hC 44 dX11_chaptersWith_36 (by decide) ?_
      cases hF
      rw [hQ]
      exact gq_iret hC rfl dX11_chaptersWith_44
  unfold F_X11_chaptersWith at hF
  refine gq_aload_n hC 0 dX11_chaptersWith_0 rfl rfl ?_
  refine gq_aload_n hC 0 dX11_chaptersWith_1 rfl rfl ?_
  obtain ⟨r_10, v_worthFrom_11, v_cutsFrom_12, v_endFrom_13, v_changes_14, v_waysFrom_15, hc_, hF⟩ := ob6_e hF
  refine gq_callVi hC [0, 1, 2, 3, 4, 5, 6] [(h_t_, .inr (11, [.ref h_a, .ref h_fresh, .ref h_kept, .int v_keptMany, .int v_thrown, .ref h_buffer, .int v_buffered, .int v_size, .int v_at, .int v_behind, .int v_kind, .int v_wrong, .int v_wrongAt, .int v_errorAt, .long v_number, .ref h_worthFrom, .ref h_cutsFrom, .ref h_endFrom, .ref h_changes, .ref h_waysFrom, .int v_toCut, .int v_toLeave, .ref h_costAt, .ref h_places, .ref h_isCut, .ref h_written, .int v_writtenMany])), (h_a, .inl (cJ, 499, .inr (.inl v_a))), (h_worthFrom, .inl (cI, 33, .inl v_worthFrom_11)), (h_cutsFrom, .inl (cI, 33, .inl v_cutsFrom_12)), (h_endFrom, .inl (cI, 33, .inl v_endFrom_13)), (h_changes, .inl (cI, 32, .inl v_changes_14)), (h_waysFrom, .inl (cJ, 33, .inr (.inl v_waysFrom_15)))] [] [.ref h_t_] (k_X11_hasBest l D cI cJ cZ cO z h_t_ h_a h_worthFrom h_cutsFrom h_endFrom h_changes h_waysFrom h_fresh h_kept h_buffer h_costAt h_places h_isCut h_written v_keptMany v_thrown v_buffered v_size v_at v_behind v_kind v_wrong v_wrongAt v_errorAt v_number v_toCut v_toLeave v_writtenMany v_a v_worthFrom v_cutsFrom v_endFrom v_changes v_waysFrom r_10 v_worthFrom_11 v_cutsFrom_12 v_endFrom_13 v_changes_14 v_waysFrom_15 hc_) gX11_chaptersWith_X11_hasBest rfl ⟨rfl, rfl⟩ hy_X11_hasBest ⟨Nat.le_of_ble_eq_true rfl, Nat.le_of_ble_eq_true rfl⟩ rfl rfl rfl (q0 := 0) rfl rfl rfl (Nat.le_of_ble_eq_true rfl) rfl dX11_chaptersWith_2 rfl rfl ?_
  refine gq_if_ne hC 12 dX11_chaptersWith_5 (by decide) (fun hc_18 => ?_) (fun hc_18 => ?_)
  · have hF := (if_neg hc_18).symm.trans hF
    refine gq_aload_n hC 0 dX11_chaptersWith_12 rfl rfl ?_
    refine gq_iload_n hC 1 dX11_chaptersWith_13 rfl rfl ?_
    obtain ⟨r_16, hc_, hF⟩ := ob1_e hF
    refine gq_callVi hC [0, 1] [(h_t_, .inr (11, [.ref h_a, .ref h_fresh, .ref h_kept, .int v_keptMany, .int v_thrown, .ref h_buffer, .int v_buffered, .int v_size, .int v_at, .int v_behind, .int v_kind, .int v_wrong, .int v_wrongAt, .int v_errorAt, .long v_number, .ref h_worthFrom, .ref h_cutsFrom, .ref h_endFrom, .ref h_changes, .ref h_waysFrom, .int v_toCut, .int v_toLeave, .ref h_costAt, .ref h_places, .ref h_isCut, .ref h_written, .int v_writtenMany])), (h_a, .inl (cJ, 499, .inr (.inl v_a))), (h_worthFrom, .inl (cI, 33, .inl v_worthFrom_11)), (h_cutsFrom, .inl (cI, 33, .inl v_cutsFrom_12)), (h_endFrom, .inl (cI, 33, .inl v_endFrom_13)), (h_changes, .inl (cI, 32, .inl v_changes_14)), (h_waysFrom, .inl (cJ, 33, .inr (.inl v_waysFrom_15)))] [.int x1] [.ref h_t_] (k_X11_isKnown l D cI cJ cZ cO z h_t_ h_a h_fresh h_kept h_buffer h_worthFrom h_cutsFrom h_endFrom h_changes h_waysFrom h_costAt h_places h_isCut h_written x1 v_keptMany v_thrown v_buffered v_size v_at v_behind v_kind v_wrong v_wrongAt v_errorAt v_number v_toCut v_toLeave v_writtenMany v_a r_16 hc_) gX11_chaptersWith_X11_isKnown rfl ⟨rfl, rfl⟩ hy_X11_isKnown ⟨Nat.le_of_ble_eq_true rfl, Nat.le_of_ble_eq_true rfl⟩ rfl rfl rfl (q0 := 0) rfl rfl rfl (Nat.le_of_ble_eq_true rfl) rfl dX11_chaptersWith_14 rfl rfl ?_
    refine gq_if_eq hC 24 dX11_chaptersWith_17 (by decide) (fun hc_17 => ?_) (fun hc_17 => ?_)
    · have hF := (if_pos hc_17).symm.trans hF
      refine gq_iconst hC (2 : Int32) dX11_chaptersWith_24 (by decide) ?_
      exact jb25 (2 : Int32) v_thrown v_worthFrom_11 v_cutsFrom_12 v_endFrom_13 v_changes_14 v_waysFrom_15 hF
    · have hF := (if_neg hc_17).symm.trans hF
      refine gq_iconst hC (0 : Int32) dX11_chaptersWith_20 (by decide) ?_
      refine gq_goto hC 25 dX11_chaptersWith_21 (by decide) ?_
      exact jb25 (0 : Int32) v_thrown v_worthFrom_11 v_cutsFrom_12 v_endFrom_13 v_changes_14 v_waysFrom_15 hF
  · have hF := (if_pos hc_18).symm.trans hF
    refine gq_iconst hC (1 : Int32) dX11_chaptersWith_8 (by decide) ?_
    refine gq_goto hC 25 dX11_chaptersWith_9 (by decide) ?_
    exact jb25 (1 : Int32) v_thrown v_worthFrom_11 v_cutsFrom_12 v_endFrom_13 v_changes_14 v_waysFrom_15 hF
theorem hy_X11_markOf : yX11_markOf.cls = RX11 ∧ yX11_markOf.cls ≠ "java/lang/invoke/MethodHandle" ∧ yX11_markOf.cls ≠ "java/lang/invoke/VarHandle" ∧ (parseMethodDescriptor yX11_markOf.desc).map (fun d => d.parameters.length) = some 2 := by decide +kernel
set_option maxRecDepth 20000 in
set_option maxHeartbeats 4000000 in
theorem k_X11_markOf (l : Launch) (D : va_G) (cI cJ cZ cO : ClassId) (z : Nat → Nat)   (h_t_ : Nat) (h_a : Nat) (h_cutsFrom : Nat) (h_endFrom : Nat) (h_fresh : Nat) (h_kept : Nat) (h_buffer : Nat) (h_worthFrom : Nat) (h_changes : Nat) (h_waysFrom : Nat) (h_costAt : Nat) (h_places : Nat) (h_isCut : Nat) (h_written : Nat) (x1 : Int32) (x2 : Int32) (v_keptMany : Int32) (v_thrown : Int32) (v_buffered : Int32) (v_size : Int32) (v_at : Int32) (v_behind : Int32) (v_kind : Int32) (v_wrong : Int32) (v_wrongAt : Int32) (v_errorAt : Int32) (v_number : Int64) (v_toCut : Int32) (v_toLeave : Int32) (v_writtenMany : Int32) (v_a : Nat → Int64) (v_cutsFrom : Nat → Int32) (v_endFrom : Nat → Int32) (r_ : Int32) (hF : F_X11_markOf x1 x2 v_a v_cutsFrom v_endFrom = some r_) : Mi l yX11_markOf wsX11_markOf (rmD 3) D (gq_ty cI cJ cZ cO) z [.ref h_t_, .int x1, .int x2] [(h_t_, .inr (11, [.ref h_a, .ref h_fresh, .ref h_kept, .int v_keptMany, .int v_thrown, .ref h_buffer, .int v_buffered, .int v_size, .int v_at, .int v_behind, .int v_kind, .int v_wrong, .int v_wrongAt, .int v_errorAt, .long v_number, .ref h_worthFrom, .ref h_cutsFrom, .ref h_endFrom, .ref h_changes, .ref h_waysFrom, .int v_toCut, .int v_toLeave, .ref h_costAt, .ref h_places, .ref h_isCut, .ref h_written, .int v_writtenMany])), (h_a, .inl (cJ, 499, .inr (.inl v_a))), (h_cutsFrom, .inl (cI, 33, .inl v_cutsFrom)), (h_endFrom, .inl (cI, 33, .inl v_endFrom))] r_ [(h_t_, .inr (11, [.ref h_a, .ref h_fresh, .ref h_kept, .int v_keptMany, .int v_thrown, .ref h_buffer, .int v_buffered, .int v_size, .int v_at, .int v_behind, .int v_kind, .int v_wrong, .int v_wrongAt, .int v_errorAt, .long v_number, .ref h_worthFrom, .ref h_cutsFrom, .ref h_endFrom, .ref h_changes, .ref h_waysFrom, .int v_toCut, .int v_toLeave, .ref h_costAt, .ref h_places, .ref h_isCut, .ref h_written, .int v_writtenMany])), (h_a, .inl (cJ, 499, .inr (.inl v_a))), (h_cutsFrom, .inl (cI, 33, .inl v_cutsFrom)), (h_endFrom, .inl (cI, 33, .inl v_endFrom))] 0 0 := by
  refine Mi.of (cc := cX11_markOf) (maxL := 5) (by decide) rfl (Nat.le_of_ble_eq_true rfl) ⟨Nat.le_refl 0, Nat.le_refl 0⟩ ?_
  intro p e s m args below meth c A hC ha
  have hin_X11 : ∀ w ∈ wsX110, w ∈ wsX11_markOf := by decide +kernel
  have hw_33 : Cond.fieldLink RX11 33 (TX11 17).1 (TX11 17).2.1 (TX11 17).2.2.1 ∈ wsX11_markOf := by decide +kernel
  obtain ⟨Q, hQ⟩ : ∃ Q, Q = gq_Qi below D A args s r_ [(h_t_, .inr (11, [.ref h_a, .ref h_fresh, .ref h_kept, .int v_keptMany, .int v_thrown, .ref h_buffer, .int v_buffered, .int v_size, .int v_at, .int v_behind, .int v_kind, .int v_wrong, .int v_wrongAt, .int v_errorAt, .long v_number, .ref h_worthFrom, .ref h_cutsFrom, .ref h_endFrom, .ref h_changes, .ref h_waysFrom, .int v_toCut, .int v_toLeave, .ref h_costAt, .ref h_places, .ref h_isCut, .ref h_written, .int v_writtenMany])), (h_a, .inl (cJ, 499, .inr (.inl v_a))), (h_cutsFrom, .inl (cI, 33, .inl v_cutsFrom)), (h_endFrom, .inl (cI, 33, .inl v_endFrom))] 0 0 := ⟨_, rfl⟩
  rw [← hQ]
  refine gq_loc [(0, .ref h_t_), (1, .int x1), (2, .int x2)] rfl ?_
  unfold F_X11_markOf at hF
  refine gq_aload_n hC 0 dX11_markOf_0 rfl rfl ?_
  refine gq_iload_n hC 1 dX11_markOf_1 rfl rfl ?_
  obtain ⟨r_1, hc_, hF⟩ := ob1_e hF
  refine gq_callVi hC [0, 3] [(h_t_, .inr (11, [.ref h_a, .ref h_fresh, .ref h_kept, .int v_keptMany, .int v_thrown, .ref h_buffer, .int v_buffered, .int v_size, .int v_at, .int v_behind, .int v_kind, .int v_wrong, .int v_wrongAt, .int v_errorAt, .long v_number, .ref h_worthFrom, .ref h_cutsFrom, .ref h_endFrom, .ref h_changes, .ref h_waysFrom, .int v_toCut, .int v_toLeave, .ref h_costAt, .ref h_places, .ref h_isCut, .ref h_written, .int v_writtenMany])), (h_a, .inl (cJ, 499, .inr (.inl v_a))), (h_cutsFrom, .inl (cI, 33, .inl v_cutsFrom)), (h_endFrom, .inl (cI, 33, .inl v_endFrom))] [.int x1] [] (k_X11_beginOf l D cI cJ cZ cO z h_t_ h_endFrom h_a h_fresh h_kept h_buffer h_worthFrom h_cutsFrom h_changes h_waysFrom h_costAt h_places h_isCut h_written x1 v_keptMany v_thrown v_buffered v_size v_at v_behind v_kind v_wrong v_wrongAt v_errorAt v_number v_toCut v_toLeave v_writtenMany v_endFrom r_1 hc_) gX11_markOf_X11_beginOf rfl ⟨rfl, rfl⟩ hy_X11_beginOf ⟨Nat.le_of_ble_eq_true rfl, Nat.le_of_ble_eq_true rfl⟩ rfl rfl rfl (q0 := 0) rfl rfl rfl (Nat.le_of_ble_eq_true rfl) rfl dX11_markOf_2 rfl rfl ?_
  refine gq_istore_n hC [(3, .int r_1), (0, .ref h_t_), (1, .int x1), (2, .int x2)] dX11_markOf_5 rfl (by decide) rfl ?_
  refine gq_aload_n hC 1 dX11_markOf_6 rfl rfl ?_
  refine gq_iload_n hC 3 dX11_markOf_7 rfl rfl ?_
  refine gq_iload_n hC 0 dX11_markOf_8 rfl rfl ?_
  refine gq_aload_n hC 1 dX11_markOf_9 rfl rfl ?_
  refine gq_get hC (kf := 17) 0 hin_X11 rfl rfl (by decide) hw_33 rfl dX11_markOf_10 ?_
  refine gq_iload_n hC 0 dX11_markOf_13 rfl rfl ?_
  obtain ⟨hi_2, hF⟩ := gi_e hF
  refine gq_iald hC 3 0 rfl rfl hi_2 dX11_markOf_14 ?_
  obtain ⟨r_3, hc_, hF⟩ := ob1_e hF
  refine gq_callVi hC [0, 1] [(h_t_, .inr (11, [.ref h_a, .ref h_fresh, .ref h_kept, .int v_keptMany, .int v_thrown, .ref h_buffer, .int v_buffered, .int v_size, .int v_at, .int v_behind, .int v_kind, .int v_wrong, .int v_wrongAt, .int v_errorAt, .long v_number, .ref h_worthFrom, .ref h_cutsFrom, .ref h_endFrom, .ref h_changes, .ref h_waysFrom, .int v_toCut, .int v_toLeave, .ref h_costAt, .ref h_places, .ref h_isCut, .ref h_written, .int v_writtenMany])), (h_a, .inl (cJ, 499, .inr (.inl v_a))), (h_cutsFrom, .inl (cI, 33, .inl v_cutsFrom)), (h_endFrom, .inl (cI, 33, .inl v_endFrom))] [.int x2, .int r_1, .int (v_endFrom r_1.toNatClampNeg)] [] (k_X11_usesIn l D cI cJ cZ cO z h_t_ h_a h_fresh h_kept h_buffer h_worthFrom h_cutsFrom h_endFrom h_changes h_waysFrom h_costAt h_places h_isCut h_written x2 r_1 (v_endFrom r_1.toNatClampNeg) v_keptMany v_thrown v_buffered v_size v_at v_behind v_kind v_wrong v_wrongAt v_errorAt v_number v_toCut v_toLeave v_writtenMany v_a r_3 hc_) gX11_markOf_X11_usesIn rfl ⟨rfl, rfl⟩ hy_X11_usesIn ⟨Nat.le_of_ble_eq_true rfl, Nat.le_of_ble_eq_true rfl⟩ rfl rfl rfl (q0 := 0) rfl rfl rfl (Nat.le_of_ble_eq_true rfl) rfl dX11_markOf_15 rfl rfl ?_
  refine gq_istore hC [(4, .int r_3), (3, .int r_1), (0, .ref h_t_), (1, .int x1), (2, .int x2)] dX11_markOf_18 (by decide) rfl ?_
  refine gq_iload hC 0 dX11_markOf_20 rfl ?_
  refine gq_if_ne hC 29 dX11_markOf_22 (by decide) (fun hc_6 => ?_) (fun hc_6 => ?_)
  · have hF := (if_neg hc_6).symm.trans hF
    refine gq_sipush hC (1000 : Int32) dX11_markOf_29 (by decide) ?_
    refine gq_iload hC 0 dX11_markOf_32 rfl ?_
    refine gq_imul hC dX11_markOf_34 ?_
    refine gq_aload_n hC 2 dX11_markOf_35 rfl rfl ?_
    refine gq_iload_n hC 4 dX11_markOf_36 rfl rfl ?_
    obtain ⟨r_4, hc_, hF⟩ := ob1_e hF
    refine gq_callVi hC [0, 1, 2, 3] [(h_t_, .inr (11, [.ref h_a, .ref h_fresh, .ref h_kept, .int v_keptMany, .int v_thrown, .ref h_buffer, .int v_buffered, .int v_size, .int v_at, .int v_behind, .int v_kind, .int v_wrong, .int v_wrongAt, .int v_errorAt, .long v_number, .ref h_worthFrom, .ref h_cutsFrom, .ref h_endFrom, .ref h_changes, .ref h_waysFrom, .int v_toCut, .int v_toLeave, .ref h_costAt, .ref h_places, .ref h_isCut, .ref h_written, .int v_writtenMany])), (h_a, .inl (cJ, 499, .inr (.inl v_a))), (h_cutsFrom, .inl (cI, 33, .inl v_cutsFrom)), (h_endFrom, .inl (cI, 33, .inl v_endFrom))] [.int x2] [.int ((1000 : Int32) * r_3)] (k_X11_chaptersOf l D cI cJ cZ cO z h_t_ h_a h_cutsFrom h_endFrom h_fresh h_kept h_buffer h_worthFrom h_changes h_waysFrom h_costAt h_places h_isCut h_written x2 v_keptMany v_thrown v_buffered v_size v_at v_behind v_kind v_wrong v_wrongAt v_errorAt v_number v_toCut v_toLeave v_writtenMany v_a v_cutsFrom v_endFrom r_4 hc_) gX11_markOf_X11_chaptersOf rfl ⟨rfl, rfl⟩ hy_X11_chaptersOf ⟨Nat.le_of_ble_eq_true rfl, Nat.le_of_ble_eq_true rfl⟩ rfl rfl rfl (q0 := 0) rfl rfl rfl (Nat.le_of_ble_eq_true rfl) rfl dX11_markOf_37 rfl rfl ?_
    obtain ⟨hz_5, hF⟩ := gzi_e hF
    refine gq_idiv hC dX11_markOf_40 hz_5 ?_
    cases hF
    rw [hQ]
    exact gq_iret hC rfl dX11_markOf_41
  · have hF := (if_pos hc_6).symm.trans hF
    refine gq_iconst hC (0 : Int32) dX11_markOf_25 (by decide) ?_
    refine gq_goto hC 41 dX11_markOf_26 (by decide) ?_
    cases hF
    rw [hQ]
    exact gq_iret hC rfl dX11_markOf_41
theorem hy_X11_typical : yX11_typical.cls = RX11 ∧ yX11_typical.cls ≠ "java/lang/invoke/MethodHandle" ∧ yX11_typical.cls ≠ "java/lang/invoke/VarHandle" ∧ (parseMethodDescriptor yX11_typical.desc).map (fun d => d.parameters.length) = some 1 := by decide +kernel
set_option maxRecDepth 20000 in
set_option maxHeartbeats 4000000 in
theorem k_X11_typical (l : Launch) (D : va_G) (cI cJ cZ cO : ClassId) (z : Nat → Nat)   (h_t_ : Nat) (h_a : Nat) (h_worthFrom : Nat) (h_cutsFrom : Nat) (h_endFrom : Nat) (h_changes : Nat) (h_waysFrom : Nat) (h_fresh : Nat) (h_kept : Nat) (h_buffer : Nat) (h_costAt : Nat) (h_places : Nat) (h_isCut : Nat) (h_written : Nat) (x1 : Int32) (v_keptMany : Int32) (v_thrown : Int32) (v_buffered : Int32) (v_size : Int32) (v_at : Int32) (v_behind : Int32) (v_kind : Int32) (v_wrong : Int32) (v_wrongAt : Int32) (v_errorAt : Int32) (v_number : Int64) (v_toCut : Int32) (v_toLeave : Int32) (v_writtenMany : Int32) (v_a : Nat → Int64) (v_worthFrom : Nat → Int32) (v_cutsFrom : Nat → Int32) (v_endFrom : Nat → Int32) (v_changes : Nat → Int32) (v_waysFrom : Nat → Int64) (r_ : Int32) (w_thrown : Int32) (w_worthFrom : Nat → Int32) (w_cutsFrom : Nat → Int32) (w_endFrom : Nat → Int32) (w_changes : Nat → Int32) (w_waysFrom : Nat → Int64) (hF : F_X11_typical x1 v_thrown v_toCut v_toLeave v_a v_worthFrom v_cutsFrom v_endFrom v_changes v_waysFrom = some (r_, w_thrown, w_worthFrom, w_cutsFrom, w_endFrom, w_changes, w_waysFrom)) : Mi l yX11_typical wsX11_typical (rmD 7) D (gq_ty cI cJ cZ cO) z [.ref h_t_, .int x1] [(h_t_, .inr (11, [.ref h_a, .ref h_fresh, .ref h_kept, .int v_keptMany, .int v_thrown, .ref h_buffer, .int v_buffered, .int v_size, .int v_at, .int v_behind, .int v_kind, .int v_wrong, .int v_wrongAt, .int v_errorAt, .long v_number, .ref h_worthFrom, .ref h_cutsFrom, .ref h_endFrom, .ref h_changes, .ref h_waysFrom, .int v_toCut, .int v_toLeave, .ref h_costAt, .ref h_places, .ref h_isCut, .ref h_written, .int v_writtenMany])), (h_a, .inl (cJ, 499, .inr (.inl v_a))), (h_worthFrom, .inl (cI, 33, .inl v_worthFrom)), (h_cutsFrom, .inl (cI, 33, .inl v_cutsFrom)), (h_endFrom, .inl (cI, 33, .inl v_endFrom)), (h_changes, .inl (cI, 32, .inl v_changes)), (h_waysFrom, .inl (cJ, 33, .inr (.inl v_waysFrom)))] r_ [(h_t_, .inr (11, [.ref h_a, .ref h_fresh, .ref h_kept, .int v_keptMany, .int w_thrown, .ref h_buffer, .int v_buffered, .int v_size, .int v_at, .int v_behind, .int v_kind, .int v_wrong, .int v_wrongAt, .int v_errorAt, .long v_number, .ref h_worthFrom, .ref h_cutsFrom, .ref h_endFrom, .ref h_changes, .ref h_waysFrom, .int v_toCut, .int v_toLeave, .ref h_costAt, .ref h_places, .ref h_isCut, .ref h_written, .int v_writtenMany])), (h_a, .inl (cJ, 499, .inr (.inl v_a))), (h_worthFrom, .inl (cI, 33, .inl w_worthFrom)), (h_cutsFrom, .inl (cI, 33, .inl w_cutsFrom)), (h_endFrom, .inl (cI, 33, .inl w_endFrom)), (h_changes, .inl (cI, 32, .inl w_changes)), (h_waysFrom, .inl (cJ, 33, .inr (.inl w_waysFrom)))] 0 0 := by
  refine Mi.of (cc := cX11_typical) (maxL := 8) (by decide) rfl (Nat.le_of_ble_eq_true rfl) ⟨Nat.le_refl 0, Nat.le_refl 0⟩ ?_
  intro p e s m args below meth c A hC ha
  have hin_X11 : ∀ w ∈ wsX110, w ∈ wsX11_typical := by decide +kernel
  have hw_33 : Cond.fieldLink RX11 33 (TX11 17).1 (TX11 17).2.1 (TX11 17).2.2.1 ∈ wsX11_typical := by decide +kernel
  have hw_79 : Cond.fieldLink RX11 79 (TX11 4).1 (TX11 4).2.1 (TX11 4).2.2.1 ∈ wsX11_typical := by decide +kernel
  obtain ⟨Q, hQ⟩ : ∃ Q, Q = gq_Qi below D A args s r_ [(h_t_, .inr (11, [.ref h_a, .ref h_fresh, .ref h_kept, .int v_keptMany, .int w_thrown, .ref h_buffer, .int v_buffered, .int v_size, .int v_at, .int v_behind, .int v_kind, .int v_wrong, .int v_wrongAt, .int v_errorAt, .long v_number, .ref h_worthFrom, .ref h_cutsFrom, .ref h_endFrom, .ref h_changes, .ref h_waysFrom, .int v_toCut, .int v_toLeave, .ref h_costAt, .ref h_places, .ref h_isCut, .ref h_written, .int v_writtenMany])), (h_a, .inl (cJ, 499, .inr (.inl v_a))), (h_worthFrom, .inl (cI, 33, .inl w_worthFrom)), (h_cutsFrom, .inl (cI, 33, .inl w_cutsFrom)), (h_endFrom, .inl (cI, 33, .inl w_endFrom)), (h_changes, .inl (cI, 32, .inl w_changes)), (h_waysFrom, .inl (cJ, 33, .inr (.inl w_waysFrom)))] 0 0 := ⟨_, rfl⟩
  rw [← hQ]
  refine gq_loc [(0, .ref h_t_), (1, .int x1)] rfl ?_
  unfold F_X11_typical at hF
  refine gq_aload_n hC 0 dX11_typical_0 rfl rfl ?_
  refine gq_aload_n hC 0 dX11_typical_1 rfl rfl ?_
  refine gq_iload_n hC 1 dX11_typical_2 rfl rfl ?_
  obtain ⟨r_1, v_worthFrom_2, v_cutsFrom_3, v_endFrom_4, v_changes_5, v_waysFrom_6, hc_, hF⟩ := ob6_e hF
  refine gq_callVi hC [0, 1, 2, 3, 4, 5, 6] [(h_t_, .inr (11, [.ref h_a, .ref h_fresh, .ref h_kept, .int v_keptMany, .int v_thrown, .ref h_buffer, .int v_buffered, .int v_size, .int v_at, .int v_behind, .int v_kind, .int v_wrong, .int v_wrongAt, .int v_errorAt, .long v_number, .ref h_worthFrom, .ref h_cutsFrom, .ref h_endFrom, .ref h_changes, .ref h_waysFrom, .int v_toCut, .int v_toLeave, .ref h_costAt, .ref h_places, .ref h_isCut, .ref h_written, .int v_writtenMany])), (h_a, .inl (cJ, 499, .inr (.inl v_a))), (h_worthFrom, .inl (cI, 33, .inl v_worthFrom_2)), (h_cutsFrom, .inl (cI, 33, .inl v_cutsFrom_3)), (h_endFrom, .inl (cI, 33, .inl v_endFrom_4)), (h_changes, .inl (cI, 32, .inl v_changes_5)), (h_waysFrom, .inl (cJ, 33, .inr (.inl v_waysFrom_6)))] [.int x1] [.ref h_t_] (k_X11_noChapter l D cI cJ cZ cO z h_t_ h_a h_worthFrom h_cutsFrom h_endFrom h_changes h_waysFrom h_fresh h_kept h_buffer h_costAt h_places h_isCut h_written x1 v_keptMany v_thrown v_buffered v_size v_at v_behind v_kind v_wrong v_wrongAt v_errorAt v_number v_toCut v_toLeave v_writtenMany v_a v_worthFrom v_cutsFrom v_endFrom v_changes v_waysFrom r_1 v_worthFrom_2 v_cutsFrom_3 v_endFrom_4 v_changes_5 v_waysFrom_6 hc_) gX11_typical_X11_noChapter rfl ⟨rfl, rfl⟩ hy_X11_noChapter ⟨Nat.le_of_ble_eq_true rfl, Nat.le_of_ble_eq_true rfl⟩ rfl rfl rfl (q0 := 0) rfl rfl rfl (Nat.le_of_ble_eq_true rfl) rfl dX11_typical_3 rfl rfl ?_
  refine gq_put1 hC (kf := 4) 0 [(h_t_, .inr (11, [.ref h_a, .ref h_fresh, .ref h_kept, .int v_keptMany, .int r_1, .ref h_buffer, .int v_buffered, .int v_size, .int v_at, .int v_behind, .int v_kind, .int v_wrong, .int v_wrongAt, .int v_errorAt, .long v_number, .ref h_worthFrom, .ref h_cutsFrom, .ref h_endFrom, .ref h_changes, .ref h_waysFrom, .int v_toCut, .int v_toLeave, .ref h_costAt, .ref h_places, .ref h_isCut, .ref h_written, .int v_writtenMany])), (h_a, .inl (cJ, 499, .inr (.inl v_a))), (h_worthFrom, .inl (cI, 33, .inl v_worthFrom_2)), (h_cutsFrom, .inl (cI, 33, .inl v_cutsFrom_3)), (h_endFrom, .inl (cI, 33, .inl v_endFrom_4)), (h_changes, .inl (cI, 32, .inl v_changes_5)), (h_waysFrom, .inl (cJ, 33, .inr (.inl v_waysFrom_6)))] tyX11 tyX11_ok nmX11 hin_X11 rfl rfl (by decide) hw_79 rfl rfl rfl (Nat.le_of_ble_eq_true rfl) dX11_typical_6 rfl ?_
  refine gq_aload_n hC 0 dX11_typical_9 rfl rfl ?_
  refine gq_get hC (kf := 4) 0 hin_X11 rfl rfl (by decide) hw_79 rfl dX11_typical_10 ?_
  refine gq_if_le hC 18 dX11_typical_13 (by decide) (fun hc_39 => ?_) (fun hc_39 => ?_)
  · have hF := (if_pos hc_39).symm.trans hF
    refine gq_aload_n hC 0 dX11_typical_18 rfl rfl ?_
    refine gq_iload_n hC 1 dX11_typical_19 rfl rfl ?_
    obtain ⟨r_7, hc_, hF⟩ := ob1_e hF
    refine gq_callVi hC [0, 4] [(h_t_, .inr (11, [.ref h_a, .ref h_fresh, .ref h_kept, .int v_keptMany, .int r_1, .ref h_buffer, .int v_buffered, .int v_size, .int v_at, .int v_behind, .int v_kind, .int v_wrong, .int v_wrongAt, .int v_errorAt, .long v_number, .ref h_worthFrom, .ref h_cutsFrom, .ref h_endFrom, .ref h_changes, .ref h_waysFrom, .int v_toCut, .int v_toLeave, .ref h_costAt, .ref h_places, .ref h_isCut, .ref h_written, .int v_writtenMany])), (h_a, .inl (cJ, 499, .inr (.inl v_a))), (h_worthFrom, .inl (cI, 33, .inl v_worthFrom_2)), (h_cutsFrom, .inl (cI, 33, .inl v_cutsFrom_3)), (h_endFrom, .inl (cI, 33, .inl v_endFrom_4)), (h_changes, .inl (cI, 32, .inl v_changes_5)), (h_waysFrom, .inl (cJ, 33, .inr (.inl v_waysFrom_6)))] [.int x1] [] (k_X11_beginOf l D cI cJ cZ cO z h_t_ h_endFrom h_a h_fresh h_kept h_buffer h_worthFrom h_cutsFrom h_changes h_waysFrom h_costAt h_places h_isCut h_written x1 v_keptMany r_1 v_buffered v_size v_at v_behind v_kind v_wrong v_wrongAt v_errorAt v_number v_toCut v_toLeave v_writtenMany v_endFrom_4 r_7 hc_) gX11_typical_X11_beginOf rfl ⟨rfl, rfl⟩ hy_X11_beginOf ⟨Nat.le_of_ble_eq_true rfl, Nat.le_of_ble_eq_true rfl⟩ rfl rfl rfl (q0 := 0) rfl rfl rfl (Nat.le_of_ble_eq_true rfl) rfl dX11_typical_20 rfl rfl ?_
    refine gq_istore_n hC [(2, .int r_7), (0, .ref h_t_), (1, .int x1)] dX11_typical_23 rfl (by decide) rfl ?_
    refine gq_iload_n hC 0 dX11_typical_24 rfl rfl ?_
    refine gq_istore_n hC [(3, .int r_7), (2, .int r_7), (0, .ref h_t_), (1, .int x1)] dX11_typical_25 rfl (by decide) rfl ?_
    refine gq_iconst hC (-1 : Int32) dX11_typical_26 (by decide) ?_
    refine gq_istore hC [(4, .int (-1 : Int32)), (3, .int r_7), (2, .int r_7), (0, .ref h_t_), (1, .int x1)] dX11_typical_27 (by decide) rfl ?_
    refine gq_iload_n hC 2 dX11_typical_29 rfl rfl ?_
    refine gq_istore hC [(5, .int r_7), (4, .int (-1 : Int32)), (3, .int r_7), (2, .int r_7), (0, .ref h_t_), (1, .int x1)] dX11_typical_30 (by decide) rfl ?_
    have lp32 : ∀ (l2_8 : Int32) (v_thrown_12 : Int32) (v_worthFrom_13 : Nat → Int32) (v_cutsFrom_14 : Nat → Int32) (v_endFrom_15 : Nat → Int32) (v_changes_16 : Nat → Int32) (v_waysFrom_17 : Nat → Int64), ∀ (e_37 : Int32), Gx p l e (rmD 7) s m args below meth c D A 8 Q 0 0 119 [(3, .int e_37)] [] [(h_t_, .inr (11, [.ref h_a, .ref h_fresh, .ref h_kept, .int v_keptMany, .int v_thrown_12, .ref h_buffer, .int v_buffered, .int v_size, .int v_at, .int v_behind, .int v_kind, .int v_wrong, .int v_wrongAt, .int v_errorAt, .long v_number, .ref h_worthFrom, .ref h_cutsFrom, .ref h_endFrom, .ref h_changes, .ref h_waysFrom, .int v_toCut, .int v_toLeave, .ref h_costAt, .ref h_places, .ref h_isCut, .ref h_written, .int v_writtenMany])), (h_a, .inl (cJ, 499, .inr (.inl v_a))), (h_worthFrom, .inl (cI, 33, .inl v_worthFrom_13)), (h_cutsFrom, .inl (cI, 33, .inl v_cutsFrom_14)), (h_endFrom, .inl (cI, 33, .inl v_endFrom_15)), (h_changes, .inl (cI, 32, .inl v_changes_16)), (h_waysFrom, .inl (cJ, 33, .inr (.inl v_waysFrom_17)))] → ∀ (N : Nat) (l3_9 : Int32) (l4_10 : Int32) (l5_11 : Int32), wh (fun k q => S_X11_typical_32 x1 l2_8 v_thrown_12 v_a v_worthFrom_13 v_cutsFrom_14 v_endFrom_15 v_changes_16 v_waysFrom_17 k q.1 q.2.1 q.2.2) N (l3_9, l4_10, l5_11) = some e_37 → Gx p l e (rmD 7) s m args below meth c D A 8 Q 0 0 32 [(0, .ref h_t_), (1, .int x1), (2, .int l2_8), (3, .int l3_9), (4, .int l4_10), (5, .int l5_11)] [] [(h_t_, .inr (11, [.ref h_a, .ref h_fresh, .ref h_kept, .int v_keptMany, .int v_thrown_12, .ref h_buffer, .int v_buffered, .int v_size, .int v_at, .int v_behind, .int v_kind, .int v_wrong, .int v_wrongAt, .int v_errorAt, .long v_number, .ref h_worthFrom, .ref h_cutsFrom, .ref h_endFrom, .ref h_changes, .ref h_waysFrom, .int v_toCut, .int v_toLeave, .ref h_costAt, .ref h_places, .ref h_isCut, .ref h_written, .int v_writtenMany])), (h_a, .inl (cJ, 499, .inr (.inl v_a))), (h_worthFrom, .inl (cI, 33, .inl v_worthFrom_13)), (h_cutsFrom, .inl (cI, 33, .inl v_cutsFrom_14)), (h_endFrom, .inl (cI, 33, .inl v_endFrom_15)), (h_changes, .inl (cI, 32, .inl v_changes_16)), (h_waysFrom, .inl (cJ, 33, .inr (.inl v_waysFrom_17)))] := by
      intro l2_8 v_thrown_12 v_worthFrom_13 v_cutsFrom_14 v_endFrom_15 v_changes_16 v_waysFrom_17 e_37 hx0 N
      induction N with
      | zero => intro l3_9 l4_10 l5_11 hw; exact absurd hw (wh_0 _ _ _)
      | succ N ih =>
        have jb97 : ∀ (l3_18 : Int32) (l4_19 : Int32) (l5_20 : Int32) (l6_21 : Int32), F_X11_typical_b97 (wh (fun k q => S_X11_typical_32 x1 l2_8 v_thrown_12 v_a v_worthFrom_13 v_cutsFrom_14 v_endFrom_15 v_changes_16 v_waysFrom_17 k q.1 q.2.1 q.2.2) N) x1 l2_8 l3_18 l4_19 l5_20 l6_21 v_thrown_12 v_a v_worthFrom_13 v_cutsFrom_14 v_endFrom_15 v_changes_16 v_waysFrom_17 = some e_37 → Gx p l e (rmD 7) s m args below meth c D A 8 Q 0 0 97 [(0, .ref h_t_), (1, .int x1), (2, .int l2_8), (3, .int l3_18), (4, .int l4_19), (5, .int l5_20), (6, .int l6_21)] [] [(h_t_, .inr (11, [.ref h_a, .ref h_fresh, .ref h_kept, .int v_keptMany, .int v_thrown_12, .ref h_buffer, .int v_buffered, .int v_size, .int v_at, .int v_behind, .int v_kind, .int v_wrong, .int v_wrongAt, .int v_errorAt, .long v_number, .ref h_worthFrom, .ref h_cutsFrom, .ref h_endFrom, .ref h_changes, .ref h_waysFrom, .int v_toCut, .int v_toLeave, .ref h_costAt, .ref h_places, .ref h_isCut, .ref h_written, .int v_writtenMany])), (h_a, .inl (cJ, 499, .inr (.inl v_a))), (h_worthFrom, .inl (cI, 33, .inl v_worthFrom_13)), (h_cutsFrom, .inl (cI, 33, .inl v_cutsFrom_14)), (h_endFrom, .inl (cI, 33, .inl v_endFrom_15)), (h_changes, .inl (cI, 32, .inl v_changes_16)), (h_waysFrom, .inl (cJ, 33, .inr (.inl v_waysFrom_17)))] := by
          intro l3_18 l4_19 l5_20 l6_21 hF
          unfold F_X11_typical_b97 at hF
          refine gq_iload hC 6 dX11_typical_97 rfl ?_
          refine gq_iload hC 4 dX11_typical_99 rfl ?_
          refine gq_icmp_le hC 109 dX11_typical_101 (by decide) (fun hc_22 => ?_) (fun hc_22 => ?_)
          · have hF := (if_pos hc_22).symm.trans hF
            refine gq_iload hC 4 dX11_typical_109 rfl ?_
            refine gq_istore hC [(4, .int l4_19), (0, .ref h_t_), (1, .int x1), (2, .int l2_8), (3, .int l3_18), (5, .int l5_20), (6, .int l6_21)] dX11_typical_111 (by decide) rfl ?_
            refine gq_iinc hC 5 (l5_20 + (1 : Int32)) [(5, .int (l5_20 + (1 : Int32))), (4, .int l4_19), (0, .ref h_t_), (1, .int x1), (2, .int l2_8), (3, .int l3_18), (6, .int l6_21)] dX11_typical_113 rfl rfl (by decide) rfl ?_
            refine gq_goto hC 32 dX11_typical_116 (by decide) ?_
            refine gq_sub [(0, .ref h_t_), (1, .int x1), (2, .int l2_8), (3, .int l3_18), (4, .int l4_19), (5, .int (l5_20 + (1 : Int32)))] [2, 3, 4, 5, 1, 0] rfl ?_
            exact ih l3_18 l4_19 (l5_20 + (1 : Int32)) hF
          · have hF := (if_neg hc_22).symm.trans hF
            refine gq_iload hC 6 dX11_typical_104 rfl ?_
            refine gq_goto hC 111 dX11_typical_106 (by decide) ?_
            refine gq_istore hC [(4, .int l6_21), (0, .ref h_t_), (1, .int x1), (2, .int l2_8), (3, .int l3_18), (5, .int l5_20), (6, .int l6_21)] dX11_typical_111 (by decide) rfl ?_
            refine gq_iinc hC 5 (l5_20 + (1 : Int32)) [(5, .int (l5_20 + (1 : Int32))), (4, .int l6_21), (0, .ref h_t_), (1, .int x1), (2, .int l2_8), (3, .int l3_18), (6, .int l6_21)] dX11_typical_113 rfl rfl (by decide) rfl ?_
            refine gq_goto hC 32 dX11_typical_116 (by decide) ?_
            refine gq_sub [(0, .ref h_t_), (1, .int x1), (2, .int l2_8), (3, .int l3_18), (4, .int l6_21), (5, .int (l5_20 + (1 : Int32)))] [2, 3, 4, 5, 1, 0] rfl ?_
            exact ih l3_18 l6_21 (l5_20 + (1 : Int32)) hF
        intro l3_9 l4_10 l5_11 hw
        have hF : S_X11_typical_32 x1 l2_8 v_thrown_12 v_a v_worthFrom_13 v_cutsFrom_14 v_endFrom_15 v_changes_16 v_waysFrom_17 (wh (fun k q => S_X11_typical_32 x1 l2_8 v_thrown_12 v_a v_worthFrom_13 v_cutsFrom_14 v_endFrom_15 v_changes_16 v_waysFrom_17 k q.1 q.2.1 q.2.2) N) l3_9 l4_10 l5_11 = some e_37 := hw
        unfold S_X11_typical_32 at hF
        refine gq_iload hC 5 dX11_typical_32 rfl ?_
        refine gq_aload_n hC 0 dX11_typical_34 rfl rfl ?_
        refine gq_get hC (kf := 17) 0 hin_X11 rfl rfl (by decide) hw_33 rfl dX11_typical_35 ?_
        refine gq_iload_n hC 2 dX11_typical_38 rfl rfl ?_
        obtain ⟨hi_23, hF⟩ := gi_e hF
        refine gq_iald hC 4 0 rfl rfl hi_23 dX11_typical_39 ?_
        refine gq_icmp_gt hC 119 dX11_typical_40 (by decide) (fun hc_36 => ?_) (fun hc_36 => ?_)
        · have hF := (if_pos hc_36).symm.trans hF
          refine gq_sub [(3, .int l3_9)] [3] rfl ?_
          cases hF
          exact hx0
        · have hF := (if_neg hc_36).symm.trans hF
          refine gq_iconst hC (0 : Int32) dX11_typical_43 (by decide) ?_
          refine gq_istore hC [(6, .int (0 : Int32)), (0, .ref h_t_), (1, .int x1), (2, .int l2_8), (3, .int l3_9), (4, .int l4_10), (5, .int l5_11)] dX11_typical_44 (by decide) rfl ?_
          refine gq_iconst hC (0 : Int32) dX11_typical_46 (by decide) ?_
          refine gq_istore hC [(7, .int (0 : Int32)), (6, .int (0 : Int32)), (0, .ref h_t_), (1, .int x1), (2, .int l2_8), (3, .int l3_9), (4, .int l4_10), (5, .int l5_11)] dX11_typical_47 (by decide) rfl ?_
          have lp49 : ∀ (l3_24 : Int32) (l4_25 : Int32) (l5_26 : Int32), ∀ (e_33 : Int32), Gx p l e (rmD 7) s m args below meth c D A 8 Q 0 0 87 [(0, .ref h_t_), (1, .int x1), (2, .int l2_8), (3, .int l3_24), (4, .int l4_25), (5, .int l5_26), (6, .int e_33)] [] [(h_t_, .inr (11, [.ref h_a, .ref h_fresh, .ref h_kept, .int v_keptMany, .int v_thrown_12, .ref h_buffer, .int v_buffered, .int v_size, .int v_at, .int v_behind, .int v_kind, .int v_wrong, .int v_wrongAt, .int v_errorAt, .long v_number, .ref h_worthFrom, .ref h_cutsFrom, .ref h_endFrom, .ref h_changes, .ref h_waysFrom, .int v_toCut, .int v_toLeave, .ref h_costAt, .ref h_places, .ref h_isCut, .ref h_written, .int v_writtenMany])), (h_a, .inl (cJ, 499, .inr (.inl v_a))), (h_worthFrom, .inl (cI, 33, .inl v_worthFrom_13)), (h_cutsFrom, .inl (cI, 33, .inl v_cutsFrom_14)), (h_endFrom, .inl (cI, 33, .inl v_endFrom_15)), (h_changes, .inl (cI, 32, .inl v_changes_16)), (h_waysFrom, .inl (cJ, 33, .inr (.inl v_waysFrom_17)))] → ∀ (N : Nat) (l6_27 : Int32) (l7_28 : Int32), wh (fun k q => S_X11_typical_49 x1 l2_8 l3_24 l4_25 l5_26 v_thrown_12 v_a v_worthFrom_13 v_cutsFrom_14 v_endFrom_15 v_changes_16 v_waysFrom_17 k q.1 q.2) N (l6_27, l7_28) = some e_33 → Gx p l e (rmD 7) s m args below meth c D A 8 Q 0 0 49 [(0, .ref h_t_), (1, .int x1), (2, .int l2_8), (3, .int l3_24), (4, .int l4_25), (5, .int l5_26), (6, .int l6_27), (7, .int l7_28)] [] [(h_t_, .inr (11, [.ref h_a, .ref h_fresh, .ref h_kept, .int v_keptMany, .int v_thrown_12, .ref h_buffer, .int v_buffered, .int v_size, .int v_at, .int v_behind, .int v_kind, .int v_wrong, .int v_wrongAt, .int v_errorAt, .long v_number, .ref h_worthFrom, .ref h_cutsFrom, .ref h_endFrom, .ref h_changes, .ref h_waysFrom, .int v_toCut, .int v_toLeave, .ref h_costAt, .ref h_places, .ref h_isCut, .ref h_written, .int v_writtenMany])), (h_a, .inl (cJ, 499, .inr (.inl v_a))), (h_worthFrom, .inl (cI, 33, .inl v_worthFrom_13)), (h_cutsFrom, .inl (cI, 33, .inl v_cutsFrom_14)), (h_endFrom, .inl (cI, 33, .inl v_endFrom_15)), (h_changes, .inl (cI, 32, .inl v_changes_16)), (h_waysFrom, .inl (cJ, 33, .inr (.inl v_waysFrom_17)))] := by
            intro l3_24 l4_25 l5_26 e_33 hx0 N
            induction N with
            | zero => intro l6_27 l7_28 hw; exact absurd hw (wh_0 _ _ _)
            | succ N ih =>
              intro l6_27 l7_28 hw
              have hF : S_X11_typical_49 x1 l2_8 l3_24 l4_25 l5_26 v_thrown_12 v_a v_worthFrom_13 v_cutsFrom_14 v_endFrom_15 v_changes_16 v_waysFrom_17 (wh (fun k q => S_X11_typical_49 x1 l2_8 l3_24 l4_25 l5_26 v_thrown_12 v_a v_worthFrom_13 v_cutsFrom_14 v_endFrom_15 v_changes_16 v_waysFrom_17 k q.1 q.2) N) l6_27 l7_28 = some e_33 := hw
              unfold S_X11_typical_49 at hF
              refine gq_iload hC 7 dX11_typical_49 rfl ?_
              refine gq_aload_n hC 0 dX11_typical_51 rfl rfl ?_
              refine gq_iload hC 5 dX11_typical_52 rfl ?_
              refine gq_iconst hC (2 : Int32) dX11_typical_54 (by decide) ?_
              obtain ⟨r_29, hc_, hF⟩ := ob1_e hF
              refine gq_callVi hC [0, 1] [(h_t_, .inr (11, [.ref h_a, .ref h_fresh, .ref h_kept, .int v_keptMany, .int v_thrown_12, .ref h_buffer, .int v_buffered, .int v_size, .int v_at, .int v_behind, .int v_kind, .int v_wrong, .int v_wrongAt, .int v_errorAt, .long v_number, .ref h_worthFrom, .ref h_cutsFrom, .ref h_endFrom, .ref h_changes, .ref h_waysFrom, .int v_toCut, .int v_toLeave, .ref h_costAt, .ref h_places, .ref h_isCut, .ref h_written, .int v_writtenMany])), (h_a, .inl (cJ, 499, .inr (.inl v_a))), (h_worthFrom, .inl (cI, 33, .inl v_worthFrom_13)), (h_cutsFrom, .inl (cI, 33, .inl v_cutsFrom_14)), (h_endFrom, .inl (cI, 33, .inl v_endFrom_15)), (h_changes, .inl (cI, 32, .inl v_changes_16)), (h_waysFrom, .inl (cJ, 33, .inr (.inl v_waysFrom_17)))] [.int l5_26, .int (2 : Int32)] [.int l7_28] (k_X11_of l D cI cJ cZ cO z h_t_ h_a h_fresh h_kept h_buffer h_worthFrom h_cutsFrom h_endFrom h_changes h_waysFrom h_costAt h_places h_isCut h_written l5_26 (2 : Int32) v_keptMany v_thrown_12 v_buffered v_size v_at v_behind v_kind v_wrong v_wrongAt v_errorAt v_number v_toCut v_toLeave v_writtenMany v_a r_29 hc_) gX11_typical_X11_of rfl ⟨rfl, rfl⟩ hy_X11_of ⟨Nat.le_of_ble_eq_true rfl, Nat.le_of_ble_eq_true rfl⟩ rfl rfl rfl (q0 := 0) rfl rfl rfl (Nat.le_of_ble_eq_true rfl) rfl dX11_typical_55 rfl rfl ?_
              refine gq_icmp_ge hC 87 dX11_typical_58 (by decide) (fun hc_32 => ?_) (fun hc_32 => ?_)
              · have hF := (if_pos hc_32).symm.trans hF
                refine gq_sub [(0, .ref h_t_), (1, .int x1), (2, .int l2_8), (3, .int l3_24), (4, .int l4_25), (5, .int l5_26), (6, .int l6_27)] [0, 1, 2, 3, 4, 5, 6] rfl ?_
                cases hF
                exact hx0
              · have hF := (if_neg hc_32).symm.trans hF
                refine gq_iload hC 6 dX11_typical_61 rfl ?_
                refine gq_aload_n hC 0 dX11_typical_63 rfl rfl ?_
                refine gq_iload_n hC 1 dX11_typical_64 rfl rfl ?_
                refine gq_aload_n hC 0 dX11_typical_65 rfl rfl ?_
                refine gq_iload hC 5 dX11_typical_66 rfl ?_
                refine gq_iconst hC (3 : Int32) dX11_typical_68 (by decide) ?_
                refine gq_iload hC 7 dX11_typical_69 rfl ?_
                refine gq_iadd hC dX11_typical_71 ?_
                obtain ⟨r_30, hc_, hF⟩ := ob1_e hF
                refine gq_callVi hC [0, 1] [(h_t_, .inr (11, [.ref h_a, .ref h_fresh, .ref h_kept, .int v_keptMany, .int v_thrown_12, .ref h_buffer, .int v_buffered, .int v_size, .int v_at, .int v_behind, .int v_kind, .int v_wrong, .int v_wrongAt, .int v_errorAt, .long v_number, .ref h_worthFrom, .ref h_cutsFrom, .ref h_endFrom, .ref h_changes, .ref h_waysFrom, .int v_toCut, .int v_toLeave, .ref h_costAt, .ref h_places, .ref h_isCut, .ref h_written, .int v_writtenMany])), (h_a, .inl (cJ, 499, .inr (.inl v_a))), (h_worthFrom, .inl (cI, 33, .inl v_worthFrom_13)), (h_cutsFrom, .inl (cI, 33, .inl v_cutsFrom_14)), (h_endFrom, .inl (cI, 33, .inl v_endFrom_15)), (h_changes, .inl (cI, 32, .inl v_changes_16)), (h_waysFrom, .inl (cJ, 33, .inr (.inl v_waysFrom_17)))] [.int l5_26, .int ((3 : Int32) + l7_28)] [.int x1, .ref h_t_, .int l6_27] (k_X11_of l D cI cJ cZ cO z h_t_ h_a h_fresh h_kept h_buffer h_worthFrom h_cutsFrom h_endFrom h_changes h_waysFrom h_costAt h_places h_isCut h_written l5_26 ((3 : Int32) + l7_28) v_keptMany v_thrown_12 v_buffered v_size v_at v_behind v_kind v_wrong v_wrongAt v_errorAt v_number v_toCut v_toLeave v_writtenMany v_a r_30 hc_) gX11_typical_X11_of rfl ⟨rfl, rfl⟩ hy_X11_of ⟨Nat.le_of_ble_eq_true rfl, Nat.le_of_ble_eq_true rfl⟩ rfl rfl rfl (q0 := 0) rfl rfl rfl (Nat.le_of_ble_eq_true rfl) rfl dX11_typical_72 rfl rfl ?_
                obtain ⟨r_31, hc_, hF⟩ := ob1_e hF
                refine gq_callVi hC [0, 1, 3, 4] [(h_t_, .inr (11, [.ref h_a, .ref h_fresh, .ref h_kept, .int v_keptMany, .int v_thrown_12, .ref h_buffer, .int v_buffered, .int v_size, .int v_at, .int v_behind, .int v_kind, .int v_wrong, .int v_wrongAt, .int v_errorAt, .long v_number, .ref h_worthFrom, .ref h_cutsFrom, .ref h_endFrom, .ref h_changes, .ref h_waysFrom, .int v_toCut, .int v_toLeave, .ref h_costAt, .ref h_places, .ref h_isCut, .ref h_written, .int v_writtenMany])), (h_a, .inl (cJ, 499, .inr (.inl v_a))), (h_worthFrom, .inl (cI, 33, .inl v_worthFrom_13)), (h_cutsFrom, .inl (cI, 33, .inl v_cutsFrom_14)), (h_endFrom, .inl (cI, 33, .inl v_endFrom_15)), (h_changes, .inl (cI, 32, .inl v_changes_16)), (h_waysFrom, .inl (cJ, 33, .inr (.inl v_waysFrom_17)))] [.int x1, .int r_30] [.int l6_27] (k_X11_markOf l D cI cJ cZ cO z h_t_ h_a h_cutsFrom h_endFrom h_fresh h_kept h_buffer h_worthFrom h_changes h_waysFrom h_costAt h_places h_isCut h_written x1 r_30 v_keptMany v_thrown_12 v_buffered v_size v_at v_behind v_kind v_wrong v_wrongAt v_errorAt v_number v_toCut v_toLeave v_writtenMany v_a v_cutsFrom_14 v_endFrom_15 r_31 hc_) gX11_typical_X11_markOf rfl ⟨rfl, rfl⟩ hy_X11_markOf ⟨Nat.le_of_ble_eq_true rfl, Nat.le_of_ble_eq_true rfl⟩ rfl rfl rfl (q0 := 0) rfl rfl rfl (Nat.le_of_ble_eq_true rfl) rfl dX11_typical_75 rfl rfl ?_
                refine gq_iadd hC dX11_typical_78 ?_
                refine gq_istore hC [(6, .int (l6_27 + r_31)), (0, .ref h_t_), (1, .int x1), (2, .int l2_8), (3, .int l3_24), (4, .int l4_25), (5, .int l5_26), (7, .int l7_28)] dX11_typical_79 (by decide) rfl ?_
                refine gq_iinc hC 7 (l7_28 + (1 : Int32)) [(7, .int (l7_28 + (1 : Int32))), (6, .int (l6_27 + r_31)), (0, .ref h_t_), (1, .int x1), (2, .int l2_8), (3, .int l3_24), (4, .int l4_25), (5, .int l5_26)] dX11_typical_81 rfl rfl (by decide) rfl ?_
                refine gq_goto hC 49 dX11_typical_84 (by decide) ?_
                refine gq_sub [(0, .ref h_t_), (1, .int x1), (2, .int l2_8), (3, .int l3_24), (4, .int l4_25), (5, .int l5_26), (6, .int (l6_27 + r_31)), (7, .int (l7_28 + (1 : Int32)))] [2, 3, 4, 5, 6, 7, 1, 0] rfl ?_
                exact ih (l6_27 + r_31) (l7_28 + (1 : Int32)) hF
          refine gq_sub [(0, .ref h_t_), (1, .int x1), (2, .int l2_8), (3, .int l3_9), (4, .int l4_10), (5, .int l5_11), (6, .int (0 : Int32)), (7, .int (0 : Int32))] [2, 3, 4, 5, 6, 7, 1, 0] rfl ?_
          obtain ⟨e_34, hw_, hF⟩ := ob1_e hF
          refine lp49 l3_9 l4_10 l5_11 e_34 ?_ wF (0 : Int32) (0 : Int32) hw_
          refine gq_iload hC 6 dX11_typical_87 rfl ?_
          refine gq_iload hC 4 dX11_typical_89 rfl ?_
          refine gq_icmp_le hC 97 dX11_typical_91 (by decide) (fun hc_35 => ?_) (fun hc_35 => ?_)
          · have hF := (if_pos hc_35).symm.trans hF
            exact jb97 l3_9 l4_10 l5_11 e_34 hF
          · have hF := (if_neg hc_35).symm.trans hF
            refine gq_iload hC 5 dX11_typical_94 rfl ?_
            refine gq_istore_n hC [(3, .int l5_11), (0, .ref h_t_), (1, .int x1), (2, .int l2_8), (4, .int l4_10), (5, .int l5_11), (6, .int e_34)] dX11_typical_96 rfl (by decide) rfl ?_
            refine gq_sub [(0, .ref h_t_), (1, .int x1), (2, .int l2_8), (3, .int l5_11), (4, .int l4_10), (5, .int l5_11), (6, .int e_34)] [1, 2, 3, 0, 4, 5, 6] rfl ?_
            exact jb97 l5_11 l4_10 l5_11 e_34 hF
    refine gq_sub [(0, .ref h_t_), (1, .int x1), (2, .int r_7), (3, .int r_7), (4, .int (-1 : Int32)), (5, .int r_7)] [4, 5, 3, 2, 1, 0] rfl ?_
    obtain ⟨e_38, hw_, hF⟩ := ob1_e hF
    refine lp32 r_7 r_1 v_worthFrom_2 v_cutsFrom_3 v_endFrom_4 v_changes_5 v_waysFrom_6 e_38 ?_ wF r_7 (-1 : Int32) r_7 hw_
    refine gq_iload_n hC 0 dX11_typical_119 rfl rfl ?_
    cases hF
    rw [hQ]
    exact gq_iret hC rfl dX11_typical_120
  · have hF := (if_neg hc_39).symm.trans hF
    refine gq_iconst hC (0 : Int32) dX11_typical_16 (by decide) ?_
    cases hF
    rw [hQ]
    exact gq_iret hC rfl dX11_typical_17
theorem hy_X11_likeness : yX11_likeness.cls = RX11 ∧ yX11_likeness.cls ≠ "java/lang/invoke/MethodHandle" ∧ yX11_likeness.cls ≠ "java/lang/invoke/VarHandle" ∧ (parseMethodDescriptor yX11_likeness.desc).map (fun d => d.parameters.length) = some 2 := by decide +kernel
set_option maxRecDepth 20000 in
set_option maxHeartbeats 4000000 in
theorem k_X11_likeness (l : Launch) (D : va_G) (cI cJ cZ cO : ClassId) (z : Nat → Nat)   (h_t_ : Nat) (h_a : Nat) (h_worthFrom : Nat) (h_cutsFrom : Nat) (h_endFrom : Nat) (h_changes : Nat) (h_waysFrom : Nat) (h_fresh : Nat) (h_kept : Nat) (h_buffer : Nat) (h_costAt : Nat) (h_places : Nat) (h_isCut : Nat) (h_written : Nat) (x1 : Int32) (x2 : Int32) (v_keptMany : Int32) (v_thrown : Int32) (v_buffered : Int32) (v_size : Int32) (v_at : Int32) (v_behind : Int32) (v_kind : Int32) (v_wrong : Int32) (v_wrongAt : Int32) (v_errorAt : Int32) (v_number : Int64) (v_toCut : Int32) (v_toLeave : Int32) (v_writtenMany : Int32) (v_a : Nat → Int64) (v_worthFrom : Nat → Int32) (v_cutsFrom : Nat → Int32) (v_endFrom : Nat → Int32) (v_changes : Nat → Int32) (v_waysFrom : Nat → Int64) (r_ : Int32) (w_thrown : Int32) (w_worthFrom : Nat → Int32) (w_cutsFrom : Nat → Int32) (w_endFrom : Nat → Int32) (w_changes : Nat → Int32) (w_waysFrom : Nat → Int64) (hF : F_X11_likeness x1 x2 v_thrown v_toCut v_toLeave v_a v_worthFrom v_cutsFrom v_endFrom v_changes v_waysFrom = some (r_, w_thrown, w_worthFrom, w_cutsFrom, w_endFrom, w_changes, w_waysFrom)) : Mi l yX11_likeness wsX11_likeness (rmD 7) D (gq_ty cI cJ cZ cO) z [.ref h_t_, .int x1, .int x2] [(h_t_, .inr (11, [.ref h_a, .ref h_fresh, .ref h_kept, .int v_keptMany, .int v_thrown, .ref h_buffer, .int v_buffered, .int v_size, .int v_at, .int v_behind, .int v_kind, .int v_wrong, .int v_wrongAt, .int v_errorAt, .long v_number, .ref h_worthFrom, .ref h_cutsFrom, .ref h_endFrom, .ref h_changes, .ref h_waysFrom, .int v_toCut, .int v_toLeave, .ref h_costAt, .ref h_places, .ref h_isCut, .ref h_written, .int v_writtenMany])), (h_a, .inl (cJ, 499, .inr (.inl v_a))), (h_worthFrom, .inl (cI, 33, .inl v_worthFrom)), (h_cutsFrom, .inl (cI, 33, .inl v_cutsFrom)), (h_endFrom, .inl (cI, 33, .inl v_endFrom)), (h_changes, .inl (cI, 32, .inl v_changes)), (h_waysFrom, .inl (cJ, 33, .inr (.inl v_waysFrom)))] r_ [(h_t_, .inr (11, [.ref h_a, .ref h_fresh, .ref h_kept, .int v_keptMany, .int w_thrown, .ref h_buffer, .int v_buffered, .int v_size, .int v_at, .int v_behind, .int v_kind, .int v_wrong, .int v_wrongAt, .int v_errorAt, .long v_number, .ref h_worthFrom, .ref h_cutsFrom, .ref h_endFrom, .ref h_changes, .ref h_waysFrom, .int v_toCut, .int v_toLeave, .ref h_costAt, .ref h_places, .ref h_isCut, .ref h_written, .int v_writtenMany])), (h_a, .inl (cJ, 499, .inr (.inl v_a))), (h_worthFrom, .inl (cI, 33, .inl w_worthFrom)), (h_cutsFrom, .inl (cI, 33, .inl w_cutsFrom)), (h_endFrom, .inl (cI, 33, .inl w_endFrom)), (h_changes, .inl (cI, 32, .inl w_changes)), (h_waysFrom, .inl (cJ, 33, .inr (.inl w_waysFrom)))] 0 0 := by
  refine Mi.of (cc := cX11_likeness) (maxL := 5) (by decide) rfl (Nat.le_of_ble_eq_true rfl) ⟨Nat.le_refl 0, Nat.le_refl 0⟩ ?_
  intro p e s m args below meth c A hC ha
  have hin_X11 : ∀ w ∈ wsX110, w ∈ wsX11_likeness := by decide +kernel
  have hw_33 : Cond.fieldLink RX11 33 (TX11 17).1 (TX11 17).2.1 (TX11 17).2.2.1 ∈ wsX11_likeness := by decide +kernel
  have hw_79 : Cond.fieldLink RX11 79 (TX11 4).1 (TX11 4).2.1 (TX11 4).2.2.1 ∈ wsX11_likeness := by decide +kernel
  obtain ⟨Q, hQ⟩ : ∃ Q, Q = gq_Qi below D A args s r_ [(h_t_, .inr (11, [.ref h_a, .ref h_fresh, .ref h_kept, .int v_keptMany, .int w_thrown, .ref h_buffer, .int v_buffered, .int v_size, .int v_at, .int v_behind, .int v_kind, .int v_wrong, .int v_wrongAt, .int v_errorAt, .long v_number, .ref h_worthFrom, .ref h_cutsFrom, .ref h_endFrom, .ref h_changes, .ref h_waysFrom, .int v_toCut, .int v_toLeave, .ref h_costAt, .ref h_places, .ref h_isCut, .ref h_written, .int v_writtenMany])), (h_a, .inl (cJ, 499, .inr (.inl v_a))), (h_worthFrom, .inl (cI, 33, .inl w_worthFrom)), (h_cutsFrom, .inl (cI, 33, .inl w_cutsFrom)), (h_endFrom, .inl (cI, 33, .inl w_endFrom)), (h_changes, .inl (cI, 32, .inl w_changes)), (h_waysFrom, .inl (cJ, 33, .inr (.inl w_waysFrom)))] 0 0 := ⟨_, rfl⟩
  rw [← hQ]
  refine gq_loc [(0, .ref h_t_), (1, .int x1), (2, .int x2)] rfl ?_
  have jb25 : ∀ (v_thrown_1 : Int32) (v_worthFrom_2 : Nat → Int32) (v_cutsFrom_3 : Nat → Int32) (v_endFrom_4 : Nat → Int32) (v_changes_5 : Nat → Int32) (v_waysFrom_6 : Nat → Int64), F_X11_likeness_b25 x1 x2 v_thrown_1 v_a v_worthFrom_2 v_cutsFrom_3 v_endFrom_4 v_changes_5 v_waysFrom_6 = some (r_, w_thrown, w_worthFrom, w_cutsFrom, w_endFrom, w_changes, w_waysFrom) → Gx p l e (rmD 7) s m args below meth c D A 5 Q 0 0 25 [(0, .ref h_t_), (1, .int x1), (2, .int x2)] [] [(h_t_, .inr (11, [.ref h_a, .ref h_fresh, .ref h_kept, .int v_keptMany, .int v_thrown_1, .ref h_buffer, .int v_buffered, .int v_size, .int v_at, .int v_behind, .int v_kind, .int v_wrong, .int v_wrongAt, .int v_errorAt, .long v_number, .ref h_worthFrom, .ref h_cutsFrom, .ref h_endFrom, .ref h_changes, .ref h_waysFrom, .int v_toCut, .int v_toLeave, .ref h_costAt, .ref h_places, .ref h_isCut, .ref h_written, .int v_writtenMany])), (h_a, .inl (cJ, 499, .inr (.inl v_a))), (h_worthFrom, .inl (cI, 33, .inl v_worthFrom_2)), (h_cutsFrom, .inl (cI, 33, .inl v_cutsFrom_3)), (h_endFrom, .inl (cI, 33, .inl v_endFrom_4)), (h_changes, .inl (cI, 32, .inl v_changes_5)), (h_waysFrom, .inl (cJ, 33, .inr (.inl v_waysFrom_6)))] := by
    intro v_thrown_1 v_worthFrom_2 v_cutsFrom_3 v_endFrom_4 v_changes_5 v_waysFrom_6 hF
    unfold F_X11_likeness_b25 at hF
    refine gq_aload_n hC 0 dX11_likeness_25 rfl rfl ?_
    refine gq_get hC (kf := 4) 0 hin_X11 rfl rfl (by decide) hw_79 rfl dX11_likeness_26 ?_
    refine gq_if_le hC 34 dX11_likeness_29 (by decide) (fun hc_12 => ?_) (fun hc_12 => ?_)
    · have hF := (if_pos hc_12).symm.trans hF
      refine gq_aload_n hC 0 dX11_likeness_34 rfl rfl ?_
      refine gq_iload_n hC 1 dX11_likeness_35 rfl rfl ?_
      obtain ⟨r_7, hc_, hF⟩ := ob1_e hF
      refine gq_callVi hC [0, 4] [(h_t_, .inr (11, [.ref h_a, .ref h_fresh, .ref h_kept, .int v_keptMany, .int v_thrown_1, .ref h_buffer, .int v_buffered, .int v_size, .int v_at, .int v_behind, .int v_kind, .int v_wrong, .int v_wrongAt, .int v_errorAt, .long v_number, .ref h_worthFrom, .ref h_cutsFrom, .ref h_endFrom, .ref h_changes, .ref h_waysFrom, .int v_toCut, .int v_toLeave, .ref h_costAt, .ref h_places, .ref h_isCut, .ref h_written, .int v_writtenMany])), (h_a, .inl (cJ, 499, .inr (.inl v_a))), (h_worthFrom, .inl (cI, 33, .inl v_worthFrom_2)), (h_cutsFrom, .inl (cI, 33, .inl v_cutsFrom_3)), (h_endFrom, .inl (cI, 33, .inl v_endFrom_4)), (h_changes, .inl (cI, 32, .inl v_changes_5)), (h_waysFrom, .inl (cJ, 33, .inr (.inl v_waysFrom_6)))] [.int x1] [] (k_X11_beginOf l D cI cJ cZ cO z h_t_ h_endFrom h_a h_fresh h_kept h_buffer h_worthFrom h_cutsFrom h_changes h_waysFrom h_costAt h_places h_isCut h_written x1 v_keptMany v_thrown_1 v_buffered v_size v_at v_behind v_kind v_wrong v_wrongAt v_errorAt v_number v_toCut v_toLeave v_writtenMany v_endFrom_4 r_7 hc_) gX11_likeness_X11_beginOf rfl ⟨rfl, rfl⟩ hy_X11_beginOf ⟨Nat.le_of_ble_eq_true rfl, Nat.le_of_ble_eq_true rfl⟩ rfl rfl rfl (q0 := 0) rfl rfl rfl (Nat.le_of_ble_eq_true rfl) rfl dX11_likeness_36 rfl rfl ?_
      refine gq_istore_n hC [(3, .int r_7), (0, .ref h_t_), (1, .int x1), (2, .int x2)] dX11_likeness_39 rfl (by decide) rfl ?_
      refine gq_aload_n hC 1 dX11_likeness_40 rfl rfl ?_
      refine gq_iload_n hC 3 dX11_likeness_41 rfl rfl ?_
      obtain ⟨r_8, hc_, hF⟩ := ob1_e hF
      refine gq_callVi hC [0, 4] [(h_t_, .inr (11, [.ref h_a, .ref h_fresh, .ref h_kept, .int v_keptMany, .int v_thrown_1, .ref h_buffer, .int v_buffered, .int v_size, .int v_at, .int v_behind, .int v_kind, .int v_wrong, .int v_wrongAt, .int v_errorAt, .long v_number, .ref h_worthFrom, .ref h_cutsFrom, .ref h_endFrom, .ref h_changes, .ref h_waysFrom, .int v_toCut, .int v_toLeave, .ref h_costAt, .ref h_places, .ref h_isCut, .ref h_written, .int v_writtenMany])), (h_a, .inl (cJ, 499, .inr (.inl v_a))), (h_worthFrom, .inl (cI, 33, .inl v_worthFrom_2)), (h_cutsFrom, .inl (cI, 33, .inl v_cutsFrom_3)), (h_endFrom, .inl (cI, 33, .inl v_endFrom_4)), (h_changes, .inl (cI, 32, .inl v_changes_5)), (h_waysFrom, .inl (cJ, 33, .inr (.inl v_waysFrom_6)))] [.int x2] [] (k_X11_beginOf l D cI cJ cZ cO z h_t_ h_endFrom h_a h_fresh h_kept h_buffer h_worthFrom h_cutsFrom h_changes h_waysFrom h_costAt h_places h_isCut h_written x2 v_keptMany v_thrown_1 v_buffered v_size v_at v_behind v_kind v_wrong v_wrongAt v_errorAt v_number v_toCut v_toLeave v_writtenMany v_endFrom_4 r_8 hc_) gX11_likeness_X11_beginOf rfl ⟨rfl, rfl⟩ hy_X11_beginOf ⟨Nat.le_of_ble_eq_true rfl, Nat.le_of_ble_eq_true rfl⟩ rfl rfl rfl (q0 := 0) rfl rfl rfl (Nat.le_of_ble_eq_true rfl) rfl dX11_likeness_42 rfl rfl ?_
      refine gq_istore hC [(4, .int r_8), (3, .int r_7), (0, .ref h_t_), (1, .int x1), (2, .int x2)] dX11_likeness_45 (by decide) rfl ?_
      refine gq_aload_n hC 2 dX11_likeness_47 rfl rfl ?_
      refine gq_iload_n hC 1 dX11_likeness_48 rfl rfl ?_
      refine gq_aload_n hC 2 dX11_likeness_49 rfl rfl ?_
      refine gq_get hC (kf := 17) 0 hin_X11 rfl rfl (by decide) hw_33 rfl dX11_likeness_50 ?_
      refine gq_iload_n hC 1 dX11_likeness_53 rfl rfl ?_
      obtain ⟨hi_9, hF⟩ := gi_e hF
      refine gq_iald hC 4 0 rfl rfl hi_9 dX11_likeness_54 ?_
      refine gq_iload hC 0 dX11_likeness_55 rfl ?_
      refine gq_aload_n hC 2 dX11_likeness_57 rfl rfl ?_
      refine gq_get hC (kf := 17) 0 hin_X11 rfl rfl (by decide) hw_33 rfl dX11_likeness_58 ?_
      refine gq_iload hC 0 dX11_likeness_61 rfl ?_
      obtain ⟨hi_10, hF⟩ := gi_e hF
      refine gq_iald hC 4 0 rfl rfl hi_10 dX11_likeness_63 ?_
      obtain ⟨r_11, hc_, hF⟩ := ob1_e hF
      refine gq_callVi hC [0, 1] [(h_t_, .inr (11, [.ref h_a, .ref h_fresh, .ref h_kept, .int v_keptMany, .int v_thrown_1, .ref h_buffer, .int v_buffered, .int v_size, .int v_at, .int v_behind, .int v_kind, .int v_wrong, .int v_wrongAt, .int v_errorAt, .long v_number, .ref h_worthFrom, .ref h_cutsFrom, .ref h_endFrom, .ref h_changes, .ref h_waysFrom, .int v_toCut, .int v_toLeave, .ref h_costAt, .ref h_places, .ref h_isCut, .ref h_written, .int v_writtenMany])), (h_a, .inl (cJ, 499, .inr (.inl v_a))), (h_worthFrom, .inl (cI, 33, .inl v_worthFrom_2)), (h_cutsFrom, .inl (cI, 33, .inl v_cutsFrom_3)), (h_endFrom, .inl (cI, 33, .inl v_endFrom_4)), (h_changes, .inl (cI, 32, .inl v_changes_5)), (h_waysFrom, .inl (cJ, 33, .inr (.inl v_waysFrom_6)))] [.int r_7, .int (v_endFrom_4 r_7.toNatClampNeg), .int r_8, .int (v_endFrom_4 r_8.toNatClampNeg)] [] (k_X11_likenessOf l D cI cJ cZ cO z h_t_ h_a h_fresh h_kept h_buffer h_worthFrom h_cutsFrom h_endFrom h_changes h_waysFrom h_costAt h_places h_isCut h_written r_7 (v_endFrom_4 r_7.toNatClampNeg) r_8 (v_endFrom_4 r_8.toNatClampNeg) v_keptMany v_thrown_1 v_buffered v_size v_at v_behind v_kind v_wrong v_wrongAt v_errorAt v_number v_toCut v_toLeave v_writtenMany v_a r_11 hc_) gX11_likeness_X11_likenessOf rfl ⟨rfl, rfl⟩ hy_X11_likenessOf ⟨Nat.le_of_ble_eq_true rfl, Nat.le_of_ble_eq_true rfl⟩ rfl rfl rfl (q0 := 0) rfl rfl rfl (Nat.le_of_ble_eq_true rfl) rfl dX11_likeness_64 rfl rfl ?_
      cases hF
      rw [hQ]
      exact gq_iret hC rfl dX11_likeness_67
    · have hF := (if_neg hc_12).symm.trans hF
      refine gq_iconst hC (0 : Int32) dX11_likeness_32 (by decide) ?_
      cases hF
      rw [hQ]
      exact gq_iret hC rfl dX11_likeness_33
  unfold F_X11_likeness at hF
  refine gq_aload_n hC 0 dX11_likeness_0 rfl rfl ?_
  refine gq_aload_n hC 0 dX11_likeness_1 rfl rfl ?_
  refine gq_iload_n hC 1 dX11_likeness_2 rfl rfl ?_
  obtain ⟨r_13, v_worthFrom_14, v_cutsFrom_15, v_endFrom_16, v_changes_17, v_waysFrom_18, hc_, hF⟩ := ob6_e hF
  refine gq_callVi hC [0, 1, 2, 3, 4, 5, 6] [(h_t_, .inr (11, [.ref h_a, .ref h_fresh, .ref h_kept, .int v_keptMany, .int v_thrown, .ref h_buffer, .int v_buffered, .int v_size, .int v_at, .int v_behind, .int v_kind, .int v_wrong, .int v_wrongAt, .int v_errorAt, .long v_number, .ref h_worthFrom, .ref h_cutsFrom, .ref h_endFrom, .ref h_changes, .ref h_waysFrom, .int v_toCut, .int v_toLeave, .ref h_costAt, .ref h_places, .ref h_isCut, .ref h_written, .int v_writtenMany])), (h_a, .inl (cJ, 499, .inr (.inl v_a))), (h_worthFrom, .inl (cI, 33, .inl v_worthFrom_14)), (h_cutsFrom, .inl (cI, 33, .inl v_cutsFrom_15)), (h_endFrom, .inl (cI, 33, .inl v_endFrom_16)), (h_changes, .inl (cI, 32, .inl v_changes_17)), (h_waysFrom, .inl (cJ, 33, .inr (.inl v_waysFrom_18)))] [.int x1] [.ref h_t_] (k_X11_noChapter l D cI cJ cZ cO z h_t_ h_a h_worthFrom h_cutsFrom h_endFrom h_changes h_waysFrom h_fresh h_kept h_buffer h_costAt h_places h_isCut h_written x1 v_keptMany v_thrown v_buffered v_size v_at v_behind v_kind v_wrong v_wrongAt v_errorAt v_number v_toCut v_toLeave v_writtenMany v_a v_worthFrom v_cutsFrom v_endFrom v_changes v_waysFrom r_13 v_worthFrom_14 v_cutsFrom_15 v_endFrom_16 v_changes_17 v_waysFrom_18 hc_) gX11_likeness_X11_noChapter rfl ⟨rfl, rfl⟩ hy_X11_noChapter ⟨Nat.le_of_ble_eq_true rfl, Nat.le_of_ble_eq_true rfl⟩ rfl rfl rfl (q0 := 0) rfl rfl rfl (Nat.le_of_ble_eq_true rfl) rfl dX11_likeness_3 rfl rfl ?_
  refine gq_put1 hC (kf := 4) 0 [(h_t_, .inr (11, [.ref h_a, .ref h_fresh, .ref h_kept, .int v_keptMany, .int r_13, .ref h_buffer, .int v_buffered, .int v_size, .int v_at, .int v_behind, .int v_kind, .int v_wrong, .int v_wrongAt, .int v_errorAt, .long v_number, .ref h_worthFrom, .ref h_cutsFrom, .ref h_endFrom, .ref h_changes, .ref h_waysFrom, .int v_toCut, .int v_toLeave, .ref h_costAt, .ref h_places, .ref h_isCut, .ref h_written, .int v_writtenMany])), (h_a, .inl (cJ, 499, .inr (.inl v_a))), (h_worthFrom, .inl (cI, 33, .inl v_worthFrom_14)), (h_cutsFrom, .inl (cI, 33, .inl v_cutsFrom_15)), (h_endFrom, .inl (cI, 33, .inl v_endFrom_16)), (h_changes, .inl (cI, 32, .inl v_changes_17)), (h_waysFrom, .inl (cJ, 33, .inr (.inl v_waysFrom_18)))] tyX11 tyX11_ok nmX11 hin_X11 rfl rfl (by decide) hw_79 rfl rfl rfl (Nat.le_of_ble_eq_true rfl) dX11_likeness_6 rfl ?_
  refine gq_aload_n hC 0 dX11_likeness_9 rfl rfl ?_
  refine gq_get hC (kf := 4) 0 hin_X11 rfl rfl (by decide) hw_79 rfl dX11_likeness_10 ?_
  refine gq_if_ne hC 25 dX11_likeness_13 (by decide) (fun hc_25 => ?_) (fun hc_25 => ?_)
  · have hF := (if_neg hc_25).symm.trans hF
    exact jb25 r_13 v_worthFrom_14 v_cutsFrom_15 v_endFrom_16 v_changes_17 v_waysFrom_18 hF
  · have hF := (if_pos hc_25).symm.trans hF
    refine gq_aload_n hC 0 dX11_likeness_16 rfl rfl ?_
    refine gq_aload_n hC 0 dX11_likeness_17 rfl rfl ?_
    refine gq_iload_n hC 2 dX11_likeness_18 rfl rfl ?_
    obtain ⟨r_19, v_worthFrom_20, v_cutsFrom_21, v_endFrom_22, v_changes_23, v_waysFrom_24, hc_, hF⟩ := ob6_e hF
    refine gq_callVi hC [0, 1, 2, 3, 4, 5, 6] [(h_t_, .inr (11, [.ref h_a, .ref h_fresh, .ref h_kept, .int v_keptMany, .int r_13, .ref h_buffer, .int v_buffered, .int v_size, .int v_at, .int v_behind, .int v_kind, .int v_wrong, .int v_wrongAt, .int v_errorAt, .long v_number, .ref h_worthFrom, .ref h_cutsFrom, .ref h_endFrom, .ref h_changes, .ref h_waysFrom, .int v_toCut, .int v_toLeave, .ref h_costAt, .ref h_places, .ref h_isCut, .ref h_written, .int v_writtenMany])), (h_a, .inl (cJ, 499, .inr (.inl v_a))), (h_worthFrom, .inl (cI, 33, .inl v_worthFrom_20)), (h_cutsFrom, .inl (cI, 33, .inl v_cutsFrom_21)), (h_endFrom, .inl (cI, 33, .inl v_endFrom_22)), (h_changes, .inl (cI, 32, .inl v_changes_23)), (h_waysFrom, .inl (cJ, 33, .inr (.inl v_waysFrom_24)))] [.int x2] [.ref h_t_] (k_X11_noChapter l D cI cJ cZ cO z h_t_ h_a h_worthFrom h_cutsFrom h_endFrom h_changes h_waysFrom h_fresh h_kept h_buffer h_costAt h_places h_isCut h_written x2 v_keptMany r_13 v_buffered v_size v_at v_behind v_kind v_wrong v_wrongAt v_errorAt v_number v_toCut v_toLeave v_writtenMany v_a v_worthFrom_14 v_cutsFrom_15 v_endFrom_16 v_changes_17 v_waysFrom_18 r_19 v_worthFrom_20 v_cutsFrom_21 v_endFrom_22 v_changes_23 v_waysFrom_24 hc_) gX11_likeness_X11_noChapter rfl ⟨rfl, rfl⟩ hy_X11_noChapter ⟨Nat.le_of_ble_eq_true rfl, Nat.le_of_ble_eq_true rfl⟩ rfl rfl rfl (q0 := 0) rfl rfl rfl (Nat.le_of_ble_eq_true rfl) rfl dX11_likeness_19 rfl rfl ?_
    refine gq_put1 hC (kf := 4) 0 [(h_t_, .inr (11, [.ref h_a, .ref h_fresh, .ref h_kept, .int v_keptMany, .int r_19, .ref h_buffer, .int v_buffered, .int v_size, .int v_at, .int v_behind, .int v_kind, .int v_wrong, .int v_wrongAt, .int v_errorAt, .long v_number, .ref h_worthFrom, .ref h_cutsFrom, .ref h_endFrom, .ref h_changes, .ref h_waysFrom, .int v_toCut, .int v_toLeave, .ref h_costAt, .ref h_places, .ref h_isCut, .ref h_written, .int v_writtenMany])), (h_a, .inl (cJ, 499, .inr (.inl v_a))), (h_worthFrom, .inl (cI, 33, .inl v_worthFrom_20)), (h_cutsFrom, .inl (cI, 33, .inl v_cutsFrom_21)), (h_endFrom, .inl (cI, 33, .inl v_endFrom_22)), (h_changes, .inl (cI, 32, .inl v_changes_23)), (h_waysFrom, .inl (cJ, 33, .inr (.inl v_waysFrom_24)))] tyX11 tyX11_ok nmX11 hin_X11 rfl rfl (by decide) hw_79 rfl rfl rfl (Nat.le_of_ble_eq_true rfl) dX11_likeness_22 rfl ?_
    exact jb25 r_19 v_worthFrom_20 v_cutsFrom_21 v_endFrom_22 v_changes_23 v_waysFrom_24 hF
theorem hy_X11_mark : yX11_mark.cls = RX11 ∧ yX11_mark.cls ≠ "java/lang/invoke/MethodHandle" ∧ yX11_mark.cls ≠ "java/lang/invoke/VarHandle" ∧ (parseMethodDescriptor yX11_mark.desc).map (fun d => d.parameters.length) = some 2 := by decide +kernel
set_option maxRecDepth 20000 in
set_option maxHeartbeats 4000000 in
theorem k_X11_mark (l : Launch) (D : va_G) (cI cJ cZ cO : ClassId) (z : Nat → Nat)   (h_t_ : Nat) (h_a : Nat) (h_worthFrom : Nat) (h_cutsFrom : Nat) (h_endFrom : Nat) (h_changes : Nat) (h_waysFrom : Nat) (h_fresh : Nat) (h_kept : Nat) (h_buffer : Nat) (h_costAt : Nat) (h_places : Nat) (h_isCut : Nat) (h_written : Nat) (x1 : Int32) (x2 : Int32) (v_keptMany : Int32) (v_thrown : Int32) (v_buffered : Int32) (v_size : Int32) (v_at : Int32) (v_behind : Int32) (v_kind : Int32) (v_wrong : Int32) (v_wrongAt : Int32) (v_errorAt : Int32) (v_number : Int64) (v_toCut : Int32) (v_toLeave : Int32) (v_writtenMany : Int32) (v_a : Nat → Int64) (v_worthFrom : Nat → Int32) (v_cutsFrom : Nat → Int32) (v_endFrom : Nat → Int32) (v_changes : Nat → Int32) (v_waysFrom : Nat → Int64) (r_ : Int32) (w_thrown : Int32) (w_worthFrom : Nat → Int32) (w_cutsFrom : Nat → Int32) (w_endFrom : Nat → Int32) (w_changes : Nat → Int32) (w_waysFrom : Nat → Int64) (hF : F_X11_mark x1 x2 v_thrown v_toCut v_toLeave v_a v_worthFrom v_cutsFrom v_endFrom v_changes v_waysFrom = some (r_, w_thrown, w_worthFrom, w_cutsFrom, w_endFrom, w_changes, w_waysFrom)) : Mi l yX11_mark wsX11_mark (rmD 7) D (gq_ty cI cJ cZ cO) z [.ref h_t_, .int x1, .int x2] [(h_t_, .inr (11, [.ref h_a, .ref h_fresh, .ref h_kept, .int v_keptMany, .int v_thrown, .ref h_buffer, .int v_buffered, .int v_size, .int v_at, .int v_behind, .int v_kind, .int v_wrong, .int v_wrongAt, .int v_errorAt, .long v_number, .ref h_worthFrom, .ref h_cutsFrom, .ref h_endFrom, .ref h_changes, .ref h_waysFrom, .int v_toCut, .int v_toLeave, .ref h_costAt, .ref h_places, .ref h_isCut, .ref h_written, .int v_writtenMany])), (h_a, .inl (cJ, 499, .inr (.inl v_a))), (h_worthFrom, .inl (cI, 33, .inl v_worthFrom)), (h_cutsFrom, .inl (cI, 33, .inl v_cutsFrom)), (h_endFrom, .inl (cI, 33, .inl v_endFrom)), (h_changes, .inl (cI, 32, .inl v_changes)), (h_waysFrom, .inl (cJ, 33, .inr (.inl v_waysFrom)))] r_ [(h_t_, .inr (11, [.ref h_a, .ref h_fresh, .ref h_kept, .int v_keptMany, .int w_thrown, .ref h_buffer, .int v_buffered, .int v_size, .int v_at, .int v_behind, .int v_kind, .int v_wrong, .int v_wrongAt, .int v_errorAt, .long v_number, .ref h_worthFrom, .ref h_cutsFrom, .ref h_endFrom, .ref h_changes, .ref h_waysFrom, .int v_toCut, .int v_toLeave, .ref h_costAt, .ref h_places, .ref h_isCut, .ref h_written, .int v_writtenMany])), (h_a, .inl (cJ, 499, .inr (.inl v_a))), (h_worthFrom, .inl (cI, 33, .inl w_worthFrom)), (h_cutsFrom, .inl (cI, 33, .inl w_cutsFrom)), (h_endFrom, .inl (cI, 33, .inl w_endFrom)), (h_changes, .inl (cI, 32, .inl w_changes)), (h_waysFrom, .inl (cJ, 33, .inr (.inl w_waysFrom)))] 0 0 := by
  refine Mi.of (cc := cX11_mark) (maxL := 3) (by decide) rfl (Nat.le_of_ble_eq_true rfl) ⟨Nat.le_refl 0, Nat.le_refl 0⟩ ?_
  intro p e s m args below meth c A hC ha
  have hin_X11 : ∀ w ∈ wsX110, w ∈ wsX11_mark := by decide +kernel
  have hw_79 : Cond.fieldLink RX11 79 (TX11 4).1 (TX11 4).2.1 (TX11 4).2.2.1 ∈ wsX11_mark := by decide +kernel
  obtain ⟨Q, hQ⟩ : ∃ Q, Q = gq_Qi below D A args s r_ [(h_t_, .inr (11, [.ref h_a, .ref h_fresh, .ref h_kept, .int v_keptMany, .int w_thrown, .ref h_buffer, .int v_buffered, .int v_size, .int v_at, .int v_behind, .int v_kind, .int v_wrong, .int v_wrongAt, .int v_errorAt, .long v_number, .ref h_worthFrom, .ref h_cutsFrom, .ref h_endFrom, .ref h_changes, .ref h_waysFrom, .int v_toCut, .int v_toLeave, .ref h_costAt, .ref h_places, .ref h_isCut, .ref h_written, .int v_writtenMany])), (h_a, .inl (cJ, 499, .inr (.inl v_a))), (h_worthFrom, .inl (cI, 33, .inl w_worthFrom)), (h_cutsFrom, .inl (cI, 33, .inl w_cutsFrom)), (h_endFrom, .inl (cI, 33, .inl w_endFrom)), (h_changes, .inl (cI, 32, .inl w_changes)), (h_waysFrom, .inl (cJ, 33, .inr (.inl w_waysFrom)))] 0 0 := ⟨_, rfl⟩
  rw [← hQ]
  refine gq_loc [(0, .ref h_t_), (1, .int x1), (2, .int x2)] rfl ?_
  have jb29 : ∀ (v_thrown_1 : Int32) (v_worthFrom_2 : Nat → Int32) (v_cutsFrom_3 : Nat → Int32) (v_endFrom_4 : Nat → Int32) (v_changes_5 : Nat → Int32) (v_waysFrom_6 : Nat → Int64), F_X11_mark_b29 x1 x2 v_thrown_1 v_a v_worthFrom_2 v_cutsFrom_3 v_endFrom_4 v_changes_5 v_waysFrom_6 = some (r_, w_thrown, w_worthFrom, w_cutsFrom, w_endFrom, w_changes, w_waysFrom) → Gx p l e (rmD 7) s m args below meth c D A 3 Q 0 0 29 [(0, .ref h_t_), (1, .int x1), (2, .int x2)] [] [(h_t_, .inr (11, [.ref h_a, .ref h_fresh, .ref h_kept, .int v_keptMany, .int v_thrown_1, .ref h_buffer, .int v_buffered, .int v_size, .int v_at, .int v_behind, .int v_kind, .int v_wrong, .int v_wrongAt, .int v_errorAt, .long v_number, .ref h_worthFrom, .ref h_cutsFrom, .ref h_endFrom, .ref h_changes, .ref h_waysFrom, .int v_toCut, .int v_toLeave, .ref h_costAt, .ref h_places, .ref h_isCut, .ref h_written, .int v_writtenMany])), (h_a, .inl (cJ, 499, .inr (.inl v_a))), (h_worthFrom, .inl (cI, 33, .inl v_worthFrom_2)), (h_cutsFrom, .inl (cI, 33, .inl v_cutsFrom_3)), (h_endFrom, .inl (cI, 33, .inl v_endFrom_4)), (h_changes, .inl (cI, 32, .inl v_changes_5)), (h_waysFrom, .inl (cJ, 33, .inr (.inl v_waysFrom_6)))] := by
    intro v_thrown_1 v_worthFrom_2 v_cutsFrom_3 v_endFrom_4 v_changes_5 v_waysFrom_6 hF
    unfold F_X11_mark_b29 at hF
    refine gq_aload_n hC 0 dX11_mark_29 rfl rfl ?_
    refine gq_get hC (kf := 4) 0 hin_X11 rfl rfl (by decide) hw_79 rfl dX11_mark_30 ?_
    refine gq_if_le hC 40 dX11_mark_33 (by decide) (fun hc_8 => ?_) (fun hc_8 => ?_)
    · have hF := (if_pos hc_8).symm.trans hF
      refine gq_aload_n hC 0 dX11_mark_40 rfl rfl ?_
      refine gq_iload_n hC 1 dX11_mark_41 rfl rfl ?_
      refine gq_iload_n hC 2 dX11_mark_42 rfl rfl ?_
      obtain ⟨r_7, hc_, hF⟩ := ob1_e hF
      refine gq_callVi hC [0, 1, 3, 4] [(h_t_, .inr (11, [.ref h_a, .ref h_fresh, .ref h_kept, .int v_keptMany, .int v_thrown_1, .ref h_buffer, .int v_buffered, .int v_size, .int v_at, .int v_behind, .int v_kind, .int v_wrong, .int v_wrongAt, .int v_errorAt, .long v_number, .ref h_worthFrom, .ref h_cutsFrom, .ref h_endFrom, .ref h_changes, .ref h_waysFrom, .int v_toCut, .int v_toLeave, .ref h_costAt, .ref h_places, .ref h_isCut, .ref h_written, .int v_writtenMany])), (h_a, .inl (cJ, 499, .inr (.inl v_a))), (h_worthFrom, .inl (cI, 33, .inl v_worthFrom_2)), (h_cutsFrom, .inl (cI, 33, .inl v_cutsFrom_3)), (h_endFrom, .inl (cI, 33, .inl v_endFrom_4)), (h_changes, .inl (cI, 32, .inl v_changes_5)), (h_waysFrom, .inl (cJ, 33, .inr (.inl v_waysFrom_6)))] [.int x1, .int x2] [] (k_X11_markOf l D cI cJ cZ cO z h_t_ h_a h_cutsFrom h_endFrom h_fresh h_kept h_buffer h_worthFrom h_changes h_waysFrom h_costAt h_places h_isCut h_written x1 x2 v_keptMany v_thrown_1 v_buffered v_size v_at v_behind v_kind v_wrong v_wrongAt v_errorAt v_number v_toCut v_toLeave v_writtenMany v_a v_cutsFrom_3 v_endFrom_4 r_7 hc_) gX11_mark_X11_markOf rfl ⟨rfl, rfl⟩ hy_X11_markOf ⟨Nat.le_of_ble_eq_true rfl, Nat.le_of_ble_eq_true rfl⟩ rfl rfl rfl (q0 := 0) rfl rfl rfl (Nat.le_of_ble_eq_true rfl) rfl dX11_mark_43 rfl rfl ?_
      cases hF
      rw [hQ]
      exact gq_iret hC rfl dX11_mark_46
    · have hF := (if_neg hc_8).symm.trans hF
      refine gq_iconst hC (0 : Int32) dX11_mark_36 (by decide) ?_
      refine gq_goto hC 46 dX11_mark_37 (by decide) ?_
      cases hF
      rw [hQ]
      exact gq_iret hC rfl dX11_mark_46
  unfold F_X11_mark at hF
  refine gq_aload_n hC 0 dX11_mark_0 rfl rfl ?_
  refine gq_aload_n hC 0 dX11_mark_1 rfl rfl ?_
  refine gq_iload_n hC 1 dX11_mark_2 rfl rfl ?_
  obtain ⟨r_9, v_worthFrom_10, v_cutsFrom_11, v_endFrom_12, v_changes_13, v_waysFrom_14, hc_, hF⟩ := ob6_e hF
  refine gq_callVi hC [0, 1, 2, 3, 4, 5, 6] [(h_t_, .inr (11, [.ref h_a, .ref h_fresh, .ref h_kept, .int v_keptMany, .int v_thrown, .ref h_buffer, .int v_buffered, .int v_size, .int v_at, .int v_behind, .int v_kind, .int v_wrong, .int v_wrongAt, .int v_errorAt, .long v_number, .ref h_worthFrom, .ref h_cutsFrom, .ref h_endFrom, .ref h_changes, .ref h_waysFrom, .int v_toCut, .int v_toLeave, .ref h_costAt, .ref h_places, .ref h_isCut, .ref h_written, .int v_writtenMany])), (h_a, .inl (cJ, 499, .inr (.inl v_a))), (h_worthFrom, .inl (cI, 33, .inl v_worthFrom_10)), (h_cutsFrom, .inl (cI, 33, .inl v_cutsFrom_11)), (h_endFrom, .inl (cI, 33, .inl v_endFrom_12)), (h_changes, .inl (cI, 32, .inl v_changes_13)), (h_waysFrom, .inl (cJ, 33, .inr (.inl v_waysFrom_14)))] [.int x1] [.ref h_t_] (k_X11_noChapter l D cI cJ cZ cO z h_t_ h_a h_worthFrom h_cutsFrom h_endFrom h_changes h_waysFrom h_fresh h_kept h_buffer h_costAt h_places h_isCut h_written x1 v_keptMany v_thrown v_buffered v_size v_at v_behind v_kind v_wrong v_wrongAt v_errorAt v_number v_toCut v_toLeave v_writtenMany v_a v_worthFrom v_cutsFrom v_endFrom v_changes v_waysFrom r_9 v_worthFrom_10 v_cutsFrom_11 v_endFrom_12 v_changes_13 v_waysFrom_14 hc_) gX11_mark_X11_noChapter rfl ⟨rfl, rfl⟩ hy_X11_noChapter ⟨Nat.le_of_ble_eq_true rfl, Nat.le_of_ble_eq_true rfl⟩ rfl rfl rfl (q0 := 0) rfl rfl rfl (Nat.le_of_ble_eq_true rfl) rfl dX11_mark_3 rfl rfl ?_
  refine gq_put1 hC (kf := 4) 0 [(h_t_, .inr (11, [.ref h_a, .ref h_fresh, .ref h_kept, .int v_keptMany, .int r_9, .ref h_buffer, .int v_buffered, .int v_size, .int v_at, .int v_behind, .int v_kind, .int v_wrong, .int v_wrongAt, .int v_errorAt, .long v_number, .ref h_worthFrom, .ref h_cutsFrom, .ref h_endFrom, .ref h_changes, .ref h_waysFrom, .int v_toCut, .int v_toLeave, .ref h_costAt, .ref h_places, .ref h_isCut, .ref h_written, .int v_writtenMany])), (h_a, .inl (cJ, 499, .inr (.inl v_a))), (h_worthFrom, .inl (cI, 33, .inl v_worthFrom_10)), (h_cutsFrom, .inl (cI, 33, .inl v_cutsFrom_11)), (h_endFrom, .inl (cI, 33, .inl v_endFrom_12)), (h_changes, .inl (cI, 32, .inl v_changes_13)), (h_waysFrom, .inl (cJ, 33, .inr (.inl v_waysFrom_14)))] tyX11 tyX11_ok nmX11 hin_X11 rfl rfl (by decide) hw_79 rfl rfl rfl (Nat.le_of_ble_eq_true rfl) dX11_mark_6 rfl ?_
  refine gq_aload_n hC 0 dX11_mark_9 rfl rfl ?_
  refine gq_get hC (kf := 4) 0 hin_X11 rfl rfl (by decide) hw_79 rfl dX11_mark_10 ?_
  refine gq_if_ne hC 29 dX11_mark_13 (by decide) (fun hc_17 => ?_) (fun hc_17 => ?_)
  · have hF := (if_neg hc_17).symm.trans hF
    exact jb29 r_9 v_worthFrom_10 v_cutsFrom_11 v_endFrom_12 v_changes_13 v_waysFrom_14 hF
  · have hF := (if_pos hc_17).symm.trans hF
    refine gq_aload_n hC 0 dX11_mark_16 rfl rfl ?_
    refine gq_iload_n hC 2 dX11_mark_17 rfl rfl ?_
    obtain ⟨r_15, hc_, hF⟩ := ob1_e hF
    refine gq_callVi hC [0, 1] [(h_t_, .inr (11, [.ref h_a, .ref h_fresh, .ref h_kept, .int v_keptMany, .int r_9, .ref h_buffer, .int v_buffered, .int v_size, .int v_at, .int v_behind, .int v_kind, .int v_wrong, .int v_wrongAt, .int v_errorAt, .long v_number, .ref h_worthFrom, .ref h_cutsFrom, .ref h_endFrom, .ref h_changes, .ref h_waysFrom, .int v_toCut, .int v_toLeave, .ref h_costAt, .ref h_places, .ref h_isCut, .ref h_written, .int v_writtenMany])), (h_a, .inl (cJ, 499, .inr (.inl v_a))), (h_worthFrom, .inl (cI, 33, .inl v_worthFrom_10)), (h_cutsFrom, .inl (cI, 33, .inl v_cutsFrom_11)), (h_endFrom, .inl (cI, 33, .inl v_endFrom_12)), (h_changes, .inl (cI, 32, .inl v_changes_13)), (h_waysFrom, .inl (cJ, 33, .inr (.inl v_waysFrom_14)))] [.int x2] [] (k_X11_isKnown l D cI cJ cZ cO z h_t_ h_a h_fresh h_kept h_buffer h_worthFrom h_cutsFrom h_endFrom h_changes h_waysFrom h_costAt h_places h_isCut h_written x2 v_keptMany r_9 v_buffered v_size v_at v_behind v_kind v_wrong v_wrongAt v_errorAt v_number v_toCut v_toLeave v_writtenMany v_a r_15 hc_) gX11_mark_X11_isKnown rfl ⟨rfl, rfl⟩ hy_X11_isKnown ⟨Nat.le_of_ble_eq_true rfl, Nat.le_of_ble_eq_true rfl⟩ rfl rfl rfl (q0 := 0) rfl rfl rfl (Nat.le_of_ble_eq_true rfl) rfl dX11_mark_18 rfl rfl ?_
    refine gq_if_ne hC 29 dX11_mark_21 (by decide) (fun hc_16 => ?_) (fun hc_16 => ?_)
    · have hF := (if_neg hc_16).symm.trans hF
      exact jb29 r_9 v_worthFrom_10 v_cutsFrom_11 v_endFrom_12 v_changes_13 v_waysFrom_14 hF
    · have hF := (if_pos hc_16).symm.trans hF
      refine gq_aload_n hC 0 dX11_mark_24 rfl rfl ?_
      refine gq_iconst hC (2 : Int32) dX11_mark_25 (by decide) ?_
      refine gq_put1 hC (kf := 4) 0 [(h_t_, .inr (11, [.ref h_a, .ref h_fresh, .ref h_kept, .int v_keptMany, .int (2 : Int32), .ref h_buffer, .int v_buffered, .int v_size, .int v_at, .int v_behind, .int v_kind, .int v_wrong, .int v_wrongAt, .int v_errorAt, .long v_number, .ref h_worthFrom, .ref h_cutsFrom, .ref h_endFrom, .ref h_changes, .ref h_waysFrom, .int v_toCut, .int v_toLeave, .ref h_costAt, .ref h_places, .ref h_isCut, .ref h_written, .int v_writtenMany])), (h_a, .inl (cJ, 499, .inr (.inl v_a))), (h_worthFrom, .inl (cI, 33, .inl v_worthFrom_10)), (h_cutsFrom, .inl (cI, 33, .inl v_cutsFrom_11)), (h_endFrom, .inl (cI, 33, .inl v_endFrom_12)), (h_changes, .inl (cI, 32, .inl v_changes_13)), (h_waysFrom, .inl (cJ, 33, .inr (.inl v_waysFrom_14)))] tyX11 tyX11_ok nmX11 hin_X11 rfl rfl (by decide) hw_79 rfl rfl rfl (Nat.le_of_ble_eq_true rfl) dX11_mark_26 rfl ?_
      exact jb29 (2 : Int32) v_worthFrom_10 v_cutsFrom_11 v_endFrom_12 v_changes_13 v_waysFrom_14 hF
theorem hy_X11_titleWord : yX11_titleWord.cls = RX11 ∧ yX11_titleWord.cls ≠ "java/lang/invoke/MethodHandle" ∧ yX11_titleWord.cls ≠ "java/lang/invoke/VarHandle" ∧ (parseMethodDescriptor yX11_titleWord.desc).map (fun d => d.parameters.length) = some 2 := by decide +kernel
set_option maxRecDepth 20000 in
set_option maxHeartbeats 4000000 in
theorem k_X11_titleWord (l : Launch) (D : va_G) (cI cJ cZ cO : ClassId) (z : Nat → Nat)   (h_t_ : Nat) (h_a : Nat) (h_cutsFrom : Nat) (h_endFrom : Nat) (h_fresh : Nat) (h_kept : Nat) (h_buffer : Nat) (h_worthFrom : Nat) (h_changes : Nat) (h_waysFrom : Nat) (h_costAt : Nat) (h_places : Nat) (h_isCut : Nat) (h_written : Nat) (x1 : Int32) (x2 : Int32) (v_keptMany : Int32) (v_thrown : Int32) (v_buffered : Int32) (v_size : Int32) (v_at : Int32) (v_behind : Int32) (v_kind : Int32) (v_wrong : Int32) (v_wrongAt : Int32) (v_errorAt : Int32) (v_number : Int64) (v_toCut : Int32) (v_toLeave : Int32) (v_writtenMany : Int32) (v_a : Nat → Int64) (v_cutsFrom : Nat → Int32) (v_endFrom : Nat → Int32) (r_ : Int32) (hF : F_X11_titleWord x1 x2 v_a v_cutsFrom v_endFrom = some r_) : Mi l yX11_titleWord wsX11_titleWord (rmD 4) D (gq_ty cI cJ cZ cO) z [.ref h_t_, .int x1, .int x2] [(h_t_, .inr (11, [.ref h_a, .ref h_fresh, .ref h_kept, .int v_keptMany, .int v_thrown, .ref h_buffer, .int v_buffered, .int v_size, .int v_at, .int v_behind, .int v_kind, .int v_wrong, .int v_wrongAt, .int v_errorAt, .long v_number, .ref h_worthFrom, .ref h_cutsFrom, .ref h_endFrom, .ref h_changes, .ref h_waysFrom, .int v_toCut, .int v_toLeave, .ref h_costAt, .ref h_places, .ref h_isCut, .ref h_written, .int v_writtenMany])), (h_a, .inl (cJ, 499, .inr (.inl v_a))), (h_cutsFrom, .inl (cI, 33, .inl v_cutsFrom)), (h_endFrom, .inl (cI, 33, .inl v_endFrom))] r_ [(h_t_, .inr (11, [.ref h_a, .ref h_fresh, .ref h_kept, .int v_keptMany, .int v_thrown, .ref h_buffer, .int v_buffered, .int v_size, .int v_at, .int v_behind, .int v_kind, .int v_wrong, .int v_wrongAt, .int v_errorAt, .long v_number, .ref h_worthFrom, .ref h_cutsFrom, .ref h_endFrom, .ref h_changes, .ref h_waysFrom, .int v_toCut, .int v_toLeave, .ref h_costAt, .ref h_places, .ref h_isCut, .ref h_written, .int v_writtenMany])), (h_a, .inl (cJ, 499, .inr (.inl v_a))), (h_cutsFrom, .inl (cI, 33, .inl v_cutsFrom)), (h_endFrom, .inl (cI, 33, .inl v_endFrom))] 0 0 := by
  refine Mi.of (cc := cX11_titleWord) (maxL := 7) (by decide) rfl (Nat.le_of_ble_eq_true rfl) ⟨Nat.le_refl 0, Nat.le_refl 0⟩ ?_
  intro p e s m args below meth c A hC ha
  have hin_X11 : ∀ w ∈ wsX110, w ∈ wsX11_titleWord := by decide +kernel
  have hw_9 : Cond.fieldLink RX11 9 (TX11 0).1 (TX11 0).2.1 (TX11 0).2.2.1 ∈ wsX11_titleWord := by decide +kernel
  obtain ⟨Q, hQ⟩ : ∃ Q, Q = gq_Qi below D A args s r_ [(h_t_, .inr (11, [.ref h_a, .ref h_fresh, .ref h_kept, .int v_keptMany, .int v_thrown, .ref h_buffer, .int v_buffered, .int v_size, .int v_at, .int v_behind, .int v_kind, .int v_wrong, .int v_wrongAt, .int v_errorAt, .long v_number, .ref h_worthFrom, .ref h_cutsFrom, .ref h_endFrom, .ref h_changes, .ref h_waysFrom, .int v_toCut, .int v_toLeave, .ref h_costAt, .ref h_places, .ref h_isCut, .ref h_written, .int v_writtenMany])), (h_a, .inl (cJ, 499, .inr (.inl v_a))), (h_cutsFrom, .inl (cI, 33, .inl v_cutsFrom)), (h_endFrom, .inl (cI, 33, .inl v_endFrom))] 0 0 := ⟨_, rfl⟩
  rw [← hQ]
  refine gq_loc [(0, .ref h_t_), (1, .int x1), (2, .int x2)] rfl ?_
  unfold F_X11_titleWord at hF
  refine gq_iconst hC (0 : Int32) dX11_titleWord_0 (by decide) ?_
  refine gq_istore_n hC [(3, .int (0 : Int32)), (0, .ref h_t_), (1, .int x1), (2, .int x2)] dX11_titleWord_1 rfl (by decide) rfl ?_
  refine gq_iconst hC (-1 : Int32) dX11_titleWord_2 (by decide) ?_
  refine gq_istore hC [(4, .int (-1 : Int32)), (3, .int (0 : Int32)), (0, .ref h_t_), (1, .int x1), (2, .int x2)] dX11_titleWord_3 (by decide) rfl ?_
  refine gq_iconst hC (0 : Int32) dX11_titleWord_5 (by decide) ?_
  refine gq_istore hC [(5, .int (0 : Int32)), (4, .int (-1 : Int32)), (3, .int (0 : Int32)), (0, .ref h_t_), (1, .int x1), (2, .int x2)] dX11_titleWord_6 (by decide) rfl ?_
  have lp8 : ∀ (out_ : (Unit) ⊕ (Int32)), (out_ = .inl () → Gx p l e (rmD 4) s m args below meth c D A 7 Q 0 0 95 [] [] [(h_t_, .inr (11, [.ref h_a, .ref h_fresh, .ref h_kept, .int v_keptMany, .int v_thrown, .ref h_buffer, .int v_buffered, .int v_size, .int v_at, .int v_behind, .int v_kind, .int v_wrong, .int v_wrongAt, .int v_errorAt, .long v_number, .ref h_worthFrom, .ref h_cutsFrom, .ref h_endFrom, .ref h_changes, .ref h_waysFrom, .int v_toCut, .int v_toLeave, .ref h_costAt, .ref h_places, .ref h_isCut, .ref h_written, .int v_writtenMany])), (h_a, .inl (cJ, 499, .inr (.inl v_a))), (h_cutsFrom, .inl (cI, 33, .inl v_cutsFrom)), (h_endFrom, .inl (cI, 33, .inl v_endFrom))]) → (∀ (e_22 : Int32), out_ = .inr e_22 → Gx p l e (rmD 4) s m args below meth c D A 7 Q 0 0 110 [(4, .int e_22)] [] [(h_t_, .inr (11, [.ref h_a, .ref h_fresh, .ref h_kept, .int v_keptMany, .int v_thrown, .ref h_buffer, .int v_buffered, .int v_size, .int v_at, .int v_behind, .int v_kind, .int v_wrong, .int v_wrongAt, .int v_errorAt, .long v_number, .ref h_worthFrom, .ref h_cutsFrom, .ref h_endFrom, .ref h_changes, .ref h_waysFrom, .int v_toCut, .int v_toLeave, .ref h_costAt, .ref h_places, .ref h_isCut, .ref h_written, .int v_writtenMany])), (h_a, .inl (cJ, 499, .inr (.inl v_a))), (h_cutsFrom, .inl (cI, 33, .inl v_cutsFrom)), (h_endFrom, .inl (cI, 33, .inl v_endFrom))]) → ∀ (N : Nat) (l3_1 : Int32) (l4_2 : Int32) (l5_3 : Int32), wh (fun k q => S_X11_titleWord_8 x1 x2 v_a v_cutsFrom v_endFrom k q.1 q.2.1 q.2.2) N (l3_1, l4_2, l5_3) = some out_ → Gx p l e (rmD 4) s m args below meth c D A 7 Q 0 0 8 [(0, .ref h_t_), (1, .int x1), (2, .int x2), (3, .int l3_1), (4, .int l4_2), (5, .int l5_3)] [] [(h_t_, .inr (11, [.ref h_a, .ref h_fresh, .ref h_kept, .int v_keptMany, .int v_thrown, .ref h_buffer, .int v_buffered, .int v_size, .int v_at, .int v_behind, .int v_kind, .int v_wrong, .int v_wrongAt, .int v_errorAt, .long v_number, .ref h_worthFrom, .ref h_cutsFrom, .ref h_endFrom, .ref h_changes, .ref h_waysFrom, .int v_toCut, .int v_toLeave, .ref h_costAt, .ref h_places, .ref h_isCut, .ref h_written, .int v_writtenMany])), (h_a, .inl (cJ, 499, .inr (.inl v_a))), (h_cutsFrom, .inl (cI, 33, .inl v_cutsFrom)), (h_endFrom, .inl (cI, 33, .inl v_endFrom))] := by
    intro out_ hx0 hx1 N
    induction N with
    | zero => intro l3_1 l4_2 l5_3 hw; exact absurd hw (wh_0 _ _ _)
    | succ N ih =>
      intro l3_1 l4_2 l5_3 hw
      have hF : S_X11_titleWord_8 x1 x2 v_a v_cutsFrom v_endFrom (wh (fun k q => S_X11_titleWord_8 x1 x2 v_a v_cutsFrom v_endFrom k q.1 q.2.1 q.2.2) N) l3_1 l4_2 l5_3 = some out_ := hw
      unfold S_X11_titleWord_8 at hF
      refine gq_iload hC 5 dX11_titleWord_8 rfl ?_
      refine gq_iload_n hC 2 dX11_titleWord_10 rfl rfl ?_
      refine gq_icmp_gt hC 110 dX11_titleWord_11 (by decide) (fun hc_21 => ?_) (fun hc_21 => ?_)
      · have hF := (if_pos hc_21).symm.trans hF
        refine gq_sub [(4, .int l4_2)] [4] rfl ?_
        exact hx1 _ (Option.some.inj hF).symm
      · have hF := (if_neg hc_21).symm.trans hF
        refine gq_iconst hC (-1 : Int32) dX11_titleWord_14 (by decide) ?_
        refine gq_istore hC [(4, .int (-1 : Int32)), (0, .ref h_t_), (1, .int x1), (2, .int x2), (3, .int l3_1), (5, .int l5_3)] dX11_titleWord_15 (by decide) rfl ?_
        refine gq_iconst hC (0 : Int32) dX11_titleWord_17 (by decide) ?_
        refine gq_istore hC [(6, .int (0 : Int32)), (4, .int (-1 : Int32)), (0, .ref h_t_), (1, .int x1), (2, .int x2), (3, .int l3_1), (5, .int l5_3)] dX11_titleWord_18 (by decide) rfl ?_
        have lp20 : ∀ (l3_4 : Int32) (l5_6 : Int32), ∀ (e_18 : Int32), Gx p l e (rmD 4) s m args below meth c D A 7 Q 0 0 89 [(0, .ref h_t_), (1, .int x1), (2, .int x2), (3, .int l3_4), (4, .int e_18), (5, .int l5_6)] [] [(h_t_, .inr (11, [.ref h_a, .ref h_fresh, .ref h_kept, .int v_keptMany, .int v_thrown, .ref h_buffer, .int v_buffered, .int v_size, .int v_at, .int v_behind, .int v_kind, .int v_wrong, .int v_wrongAt, .int v_errorAt, .long v_number, .ref h_worthFrom, .ref h_cutsFrom, .ref h_endFrom, .ref h_changes, .ref h_waysFrom, .int v_toCut, .int v_toLeave, .ref h_costAt, .ref h_places, .ref h_isCut, .ref h_written, .int v_writtenMany])), (h_a, .inl (cJ, 499, .inr (.inl v_a))), (h_cutsFrom, .inl (cI, 33, .inl v_cutsFrom)), (h_endFrom, .inl (cI, 33, .inl v_endFrom))] → ∀ (N : Nat) (l4_5 : Int32) (l6_7 : Int32), wh (fun k q => S_X11_titleWord_20 x1 x2 l3_4 l5_6 v_a v_cutsFrom v_endFrom k q.1 q.2) N (l4_5, l6_7) = some e_18 → Gx p l e (rmD 4) s m args below meth c D A 7 Q 0 0 20 [(0, .ref h_t_), (1, .int x1), (2, .int x2), (3, .int l3_4), (4, .int l4_5), (5, .int l5_6), (6, .int l6_7)] [] [(h_t_, .inr (11, [.ref h_a, .ref h_fresh, .ref h_kept, .int v_keptMany, .int v_thrown, .ref h_buffer, .int v_buffered, .int v_size, .int v_at, .int v_behind, .int v_kind, .int v_wrong, .int v_wrongAt, .int v_errorAt, .long v_number, .ref h_worthFrom, .ref h_cutsFrom, .ref h_endFrom, .ref h_changes, .ref h_waysFrom, .int v_toCut, .int v_toLeave, .ref h_costAt, .ref h_places, .ref h_isCut, .ref h_written, .int v_writtenMany])), (h_a, .inl (cJ, 499, .inr (.inl v_a))), (h_cutsFrom, .inl (cI, 33, .inl v_cutsFrom)), (h_endFrom, .inl (cI, 33, .inl v_endFrom))] := by
          intro l3_4 l5_6 e_18 hx0 N
          induction N with
          | zero => intro l4_5 l6_7 hw; exact absurd hw (wh_0 _ _ _)
          | succ N ih =>
            intro l4_5 l6_7 hw
            have hF : S_X11_titleWord_20 x1 x2 l3_4 l5_6 v_a v_cutsFrom v_endFrom (wh (fun k q => S_X11_titleWord_20 x1 x2 l3_4 l5_6 v_a v_cutsFrom v_endFrom k q.1 q.2) N) l4_5 l6_7 = some e_18 := hw
            unfold S_X11_titleWord_20 at hF
            refine gq_iload hC 6 dX11_titleWord_20 rfl ?_
            refine gq_i2l hC dX11_titleWord_22 ?_
            refine gq_aload_n hC 0 dX11_titleWord_23 rfl rfl ?_
            refine gq_get hC (kf := 0) 0 hin_X11 rfl rfl (by decide) hw_9 rfl dX11_titleWord_24 ?_
            refine gq_bipush hC (7 : Int32) dX11_titleWord_27 (by decide) ?_
            obtain ⟨hi_8, hF⟩ := gi_e hF
            refine gq_lald hC 1 1 rfl rfl hi_8 dX11_titleWord_29 ?_
            refine gq_lcmp hC dX11_titleWord_30 ?_
            refine gq_if_ge hC 89 dX11_titleWord_31 (by decide) (fun hc_17 => ?_) (fun hc_17 => ?_)
            · have hF := (if_pos hc_17).symm.trans hF
              refine gq_sub [(0, .ref h_t_), (1, .int x1), (2, .int x2), (3, .int l3_4), (4, .int l4_5), (5, .int l5_6)] [0, 1, 2, 3, 4, 5] rfl ?_
              cases hF
              exact hx0
            · have hF := (if_neg hc_17).symm.trans hF
              refine gq_iload_n hC 3 dX11_titleWord_34 rfl rfl ?_
              refine gq_iload hC 6 dX11_titleWord_35 rfl ?_
              obtain ⟨r_9, hc_, hF⟩ := ob1_e hF
              refine gq_callSi hC [] [(h_t_, .inr (11, [.ref h_a, .ref h_fresh, .ref h_kept, .int v_keptMany, .int v_thrown, .ref h_buffer, .int v_buffered, .int v_size, .int v_at, .int v_behind, .int v_kind, .int v_wrong, .int v_wrongAt, .int v_errorAt, .long v_number, .ref h_worthFrom, .ref h_cutsFrom, .ref h_endFrom, .ref h_changes, .ref h_waysFrom, .int v_toCut, .int v_toLeave, .ref h_costAt, .ref h_places, .ref h_isCut, .ref h_written, .int v_writtenMany])), (h_a, .inl (cJ, 499, .inr (.inl v_a))), (h_cutsFrom, .inl (cI, 33, .inl v_cutsFrom)), (h_endFrom, .inl (cI, 33, .inl v_endFrom))] [.int l3_4, .int l6_7] [] (k_X11_has l D cI cJ cZ cO z  l3_4 l6_7 r_9 hc_) gX11_titleWord_X11_has rfl ⟨rfl, rfl⟩ hy_X11_has rfl ⟨Nat.le_of_ble_eq_true rfl, Nat.le_of_ble_eq_true rfl⟩ rfl rfl rfl (Nat.le_of_ble_eq_true rfl) rfl dX11_titleWord_37 rfl rfl ?_
              refine gq_if_ne hC 83 dX11_titleWord_40 (by decide) (fun hc_16 => ?_) (fun hc_16 => ?_)
              · have hF := (if_neg hc_16).symm.trans hF
                refine gq_iinc hC 6 (l6_7 + (1 : Int32)) [(6, .int (l6_7 + (1 : Int32))), (0, .ref h_t_), (1, .int x1), (2, .int x2), (3, .int l3_4), (4, .int l4_5), (5, .int l5_6)] dX11_titleWord_83 rfl rfl (by decide) rfl ?_
                refine gq_goto hC 20 dX11_titleWord_86 (by decide) ?_
                refine gq_sub [(0, .ref h_t_), (1, .int x1), (2, .int x2), (3, .int l3_4), (4, .int l4_5), (5, .int l5_6), (6, .int (l6_7 + (1 : Int32)))] [1, 2, 3, 4, 5, 6, 0] rfl ?_
                exact ih l4_5 (l6_7 + (1 : Int32)) hF
              · have hF := (if_pos hc_16).symm.trans hF
                refine gq_aload_n hC 0 dX11_titleWord_43 rfl rfl ?_
                refine gq_iload_n hC 1 dX11_titleWord_44 rfl rfl ?_
                refine gq_iload hC 6 dX11_titleWord_45 rfl ?_
                obtain ⟨r_10, hc_, hF⟩ := ob1_e hF
                refine gq_callVi hC [0, 1, 2, 3] [(h_t_, .inr (11, [.ref h_a, .ref h_fresh, .ref h_kept, .int v_keptMany, .int v_thrown, .ref h_buffer, .int v_buffered, .int v_size, .int v_at, .int v_behind, .int v_kind, .int v_wrong, .int v_wrongAt, .int v_errorAt, .long v_number, .ref h_worthFrom, .ref h_cutsFrom, .ref h_endFrom, .ref h_changes, .ref h_waysFrom, .int v_toCut, .int v_toLeave, .ref h_costAt, .ref h_places, .ref h_isCut, .ref h_written, .int v_writtenMany])), (h_a, .inl (cJ, 499, .inr (.inl v_a))), (h_cutsFrom, .inl (cI, 33, .inl v_cutsFrom)), (h_endFrom, .inl (cI, 33, .inl v_endFrom))] [.int x1, .int l6_7] [] (k_X11_markOf l D cI cJ cZ cO z h_t_ h_a h_cutsFrom h_endFrom h_fresh h_kept h_buffer h_worthFrom h_changes h_waysFrom h_costAt h_places h_isCut h_written x1 l6_7 v_keptMany v_thrown v_buffered v_size v_at v_behind v_kind v_wrong v_wrongAt v_errorAt v_number v_toCut v_toLeave v_writtenMany v_a v_cutsFrom v_endFrom r_10 hc_) gX11_titleWord_X11_markOf rfl ⟨rfl, rfl⟩ hy_X11_markOf ⟨Nat.le_of_ble_eq_true rfl, Nat.le_of_ble_eq_true rfl⟩ rfl rfl rfl (q0 := 0) rfl rfl rfl (Nat.le_of_ble_eq_true rfl) rfl dX11_titleWord_47 rfl rfl ?_
                refine gq_if_ne hC 56 dX11_titleWord_50 (by decide) (fun hc_15 => ?_) (fun hc_15 => ?_)
                · have hF := (if_neg hc_15).symm.trans hF
                  refine gq_iload hC 4 dX11_titleWord_56 rfl ?_
                  refine gq_iconst hC (-1 : Int32) dX11_titleWord_58 (by decide) ?_
                  refine gq_icmp_eq hC 79 dX11_titleWord_59 (by decide) (fun hc_14 => ?_) (fun hc_14 => ?_)
                  · have hF := (if_pos hc_14).symm.trans hF
                    refine gq_iload hC 6 dX11_titleWord_79 rfl ?_
                    refine gq_istore hC [(4, .int l6_7), (0, .ref h_t_), (1, .int x1), (2, .int x2), (3, .int l3_4), (5, .int l5_6), (6, .int l6_7)] dX11_titleWord_81 (by decide) rfl ?_
                    refine gq_iinc hC 6 (l6_7 + (1 : Int32)) [(6, .int (l6_7 + (1 : Int32))), (4, .int l6_7), (0, .ref h_t_), (1, .int x1), (2, .int x2), (3, .int l3_4), (5, .int l5_6)] dX11_titleWord_83 rfl rfl (by decide) rfl ?_
                    refine gq_goto hC 20 dX11_titleWord_86 (by decide) ?_
                    refine gq_sub [(0, .ref h_t_), (1, .int x1), (2, .int x2), (3, .int l3_4), (4, .int l6_7), (5, .int l5_6), (6, .int (l6_7 + (1 : Int32)))] [2, 3, 4, 5, 1, 6, 0] rfl ?_
                    exact ih l6_7 (l6_7 + (1 : Int32)) hF
                  · have hF := (if_neg hc_14).symm.trans hF
                    refine gq_aload_n hC 0 dX11_titleWord_62 rfl rfl ?_
                    refine gq_iload_n hC 1 dX11_titleWord_63 rfl rfl ?_
                    refine gq_iload hC 6 dX11_titleWord_64 rfl ?_
                    obtain ⟨r_11, hc_, hF⟩ := ob1_e hF
                    refine gq_callVi hC [0, 1, 2, 3] [(h_t_, .inr (11, [.ref h_a, .ref h_fresh, .ref h_kept, .int v_keptMany, .int v_thrown, .ref h_buffer, .int v_buffered, .int v_size, .int v_at, .int v_behind, .int v_kind, .int v_wrong, .int v_wrongAt, .int v_errorAt, .long v_number, .ref h_worthFrom, .ref h_cutsFrom, .ref h_endFrom, .ref h_changes, .ref h_waysFrom, .int v_toCut, .int v_toLeave, .ref h_costAt, .ref h_places, .ref h_isCut, .ref h_written, .int v_writtenMany])), (h_a, .inl (cJ, 499, .inr (.inl v_a))), (h_cutsFrom, .inl (cI, 33, .inl v_cutsFrom)), (h_endFrom, .inl (cI, 33, .inl v_endFrom))] [.int x1, .int l6_7] [] (k_X11_markOf l D cI cJ cZ cO z h_t_ h_a h_cutsFrom h_endFrom h_fresh h_kept h_buffer h_worthFrom h_changes h_waysFrom h_costAt h_places h_isCut h_written x1 l6_7 v_keptMany v_thrown v_buffered v_size v_at v_behind v_kind v_wrong v_wrongAt v_errorAt v_number v_toCut v_toLeave v_writtenMany v_a v_cutsFrom v_endFrom r_11 hc_) gX11_titleWord_X11_markOf rfl ⟨rfl, rfl⟩ hy_X11_markOf ⟨Nat.le_of_ble_eq_true rfl, Nat.le_of_ble_eq_true rfl⟩ rfl rfl rfl (q0 := 0) rfl rfl rfl (Nat.le_of_ble_eq_true rfl) rfl dX11_titleWord_66 rfl rfl ?_
                    refine gq_aload_n hC 0 dX11_titleWord_69 rfl rfl ?_
                    refine gq_iload_n hC 1 dX11_titleWord_70 rfl rfl ?_
                    refine gq_iload hC 4 dX11_titleWord_71 rfl ?_
                    obtain ⟨r_12, hc_, hF⟩ := ob1_e hF
                    refine gq_callVi hC [0, 1, 2, 3] [(h_t_, .inr (11, [.ref h_a, .ref h_fresh, .ref h_kept, .int v_keptMany, .int v_thrown, .ref h_buffer, .int v_buffered, .int v_size, .int v_at, .int v_behind, .int v_kind, .int v_wrong, .int v_wrongAt, .int v_errorAt, .long v_number, .ref h_worthFrom, .ref h_cutsFrom, .ref h_endFrom, .ref h_changes, .ref h_waysFrom, .int v_toCut, .int v_toLeave, .ref h_costAt, .ref h_places, .ref h_isCut, .ref h_written, .int v_writtenMany])), (h_a, .inl (cJ, 499, .inr (.inl v_a))), (h_cutsFrom, .inl (cI, 33, .inl v_cutsFrom)), (h_endFrom, .inl (cI, 33, .inl v_endFrom))] [.int x1, .int l4_5] [.int r_11] (k_X11_markOf l D cI cJ cZ cO z h_t_ h_a h_cutsFrom h_endFrom h_fresh h_kept h_buffer h_worthFrom h_changes h_waysFrom h_costAt h_places h_isCut h_written x1 l4_5 v_keptMany v_thrown v_buffered v_size v_at v_behind v_kind v_wrong v_wrongAt v_errorAt v_number v_toCut v_toLeave v_writtenMany v_a v_cutsFrom v_endFrom r_12 hc_) gX11_titleWord_X11_markOf rfl ⟨rfl, rfl⟩ hy_X11_markOf ⟨Nat.le_of_ble_eq_true rfl, Nat.le_of_ble_eq_true rfl⟩ rfl rfl rfl (q0 := 0) rfl rfl rfl (Nat.le_of_ble_eq_true rfl) rfl dX11_titleWord_73 rfl rfl ?_
                    refine gq_icmp_le hC 83 dX11_titleWord_76 (by decide) (fun hc_13 => ?_) (fun hc_13 => ?_)
                    · have hF := (if_pos hc_13).symm.trans hF
                      refine gq_iinc hC 6 (l6_7 + (1 : Int32)) [(6, .int (l6_7 + (1 : Int32))), (0, .ref h_t_), (1, .int x1), (2, .int x2), (3, .int l3_4), (4, .int l4_5), (5, .int l5_6)] dX11_titleWord_83 rfl rfl (by decide) rfl ?_
                      refine gq_goto hC 20 dX11_titleWord_86 (by decide) ?_
                      refine gq_sub [(0, .ref h_t_), (1, .int x1), (2, .int x2), (3, .int l3_4), (4, .int l4_5), (5, .int l5_6), (6, .int (l6_7 + (1 : Int32)))] [1, 2, 3, 4, 5, 6, 0] rfl ?_
                      exact ih l4_5 (l6_7 + (1 : Int32)) hF
                    · have hF := (if_neg hc_13).symm.trans hF
                      refine gq_iload hC 6 dX11_titleWord_79 rfl ?_
                      refine gq_istore hC [(4, .int l6_7), (0, .ref h_t_), (1, .int x1), (2, .int x2), (3, .int l3_4), (5, .int l5_6), (6, .int l6_7)] dX11_titleWord_81 (by decide) rfl ?_
                      refine gq_iinc hC 6 (l6_7 + (1 : Int32)) [(6, .int (l6_7 + (1 : Int32))), (4, .int l6_7), (0, .ref h_t_), (1, .int x1), (2, .int x2), (3, .int l3_4), (5, .int l5_6)] dX11_titleWord_83 rfl rfl (by decide) rfl ?_
                      refine gq_goto hC 20 dX11_titleWord_86 (by decide) ?_
                      refine gq_sub [(0, .ref h_t_), (1, .int x1), (2, .int x2), (3, .int l3_4), (4, .int l6_7), (5, .int l5_6), (6, .int (l6_7 + (1 : Int32)))] [2, 3, 4, 5, 1, 6, 0] rfl ?_
                      exact ih l6_7 (l6_7 + (1 : Int32)) hF
                · have hF := (if_pos hc_15).symm.trans hF
                  refine gq_goto hC 83 dX11_titleWord_53 (by decide) ?_
                  refine gq_iinc hC 6 (l6_7 + (1 : Int32)) [(6, .int (l6_7 + (1 : Int32))), (0, .ref h_t_), (1, .int x1), (2, .int x2), (3, .int l3_4), (4, .int l4_5), (5, .int l5_6)] dX11_titleWord_83 rfl rfl (by decide) rfl ?_
                  refine gq_goto hC 20 dX11_titleWord_86 (by decide) ?_
                  refine gq_sub [(0, .ref h_t_), (1, .int x1), (2, .int x2), (3, .int l3_4), (4, .int l4_5), (5, .int l5_6), (6, .int (l6_7 + (1 : Int32)))] [1, 2, 3, 4, 5, 6, 0] rfl ?_
                  exact ih l4_5 (l6_7 + (1 : Int32)) hF
        refine gq_sub [(0, .ref h_t_), (1, .int x1), (2, .int x2), (3, .int l3_1), (4, .int (-1 : Int32)), (5, .int l5_3), (6, .int (0 : Int32))] [2, 3, 4, 5, 1, 6, 0] rfl ?_
        obtain ⟨e_19, hw_, hF⟩ := ob1_e hF
        refine lp20 l3_1 l5_3 e_19 ?_ wF (-1 : Int32) (0 : Int32) hw_
        refine gq_iload hC 4 dX11_titleWord_89 rfl ?_
        refine gq_iconst hC (-1 : Int32) dX11_titleWord_91 (by decide) ?_
        refine gq_icmp_ne hC 97 dX11_titleWord_92 (by decide) (fun hc_20 => ?_) (fun hc_20 => ?_)
        · have hF := (if_neg hc_20).symm.trans hF
          refine gq_iload_n hC 3 dX11_titleWord_97 rfl rfl ?_
          refine gq_iconst hC (1 : Int32) dX11_titleWord_98 (by decide) ?_
          refine gq_iload hC 4 dX11_titleWord_99 rfl ?_
          refine gq_ishl hC dX11_titleWord_101 ?_
          refine gq_ior hC dX11_titleWord_102 ?_
          refine gq_istore_n hC [(3, .int (l3_1 ||| ((1 : Int32) <<< (e_19 &&& 31)))), (0, .ref h_t_), (1, .int x1), (2, .int x2), (4, .int e_19), (5, .int l5_3)] dX11_titleWord_103 rfl (by decide) rfl ?_
          refine gq_iinc hC 5 (l5_3 + (1 : Int32)) [(5, .int (l5_3 + (1 : Int32))), (3, .int (l3_1 ||| ((1 : Int32) <<< (e_19 &&& 31)))), (0, .ref h_t_), (1, .int x1), (2, .int x2), (4, .int e_19)] dX11_titleWord_104 rfl rfl (by decide) rfl ?_
          refine gq_goto hC 8 dX11_titleWord_107 (by decide) ?_
          refine gq_sub [(0, .ref h_t_), (1, .int x1), (2, .int x2), (3, .int (l3_1 ||| ((1 : Int32) <<< (e_19 &&& 31)))), (4, .int e_19), (5, .int (l5_3 + (1 : Int32)))] [2, 3, 4, 1, 5, 0] rfl ?_
          exact ih (l3_1 ||| ((1 : Int32) <<< (e_19 &&& 31))) e_19 (l5_3 + (1 : Int32)) hF
        · have hF := (if_pos hc_20).symm.trans hF
          refine gq_sub [] [] rfl ?_
          exact hx0  (Option.some.inj hF).symm
  refine gq_sub [(0, .ref h_t_), (1, .int x1), (2, .int x2), (3, .int (0 : Int32)), (4, .int (-1 : Int32)), (5, .int (0 : Int32))] [3, 4, 5, 2, 1, 0] rfl ?_
  obtain ⟨o_, hw_, hF⟩ := ob1_e hF
  refine lp8  o_ ?_ ?_ wF (0 : Int32) (-1 : Int32) (0 : Int32) hw_
  · intro  ho_23
    subst ho_23
    have hF : (some (-1 : Int32)) = some _ := hF
    refine gq_iconst hC (-1 : Int32) dX11_titleWord_95 (by decide) ?_
    cases hF
    rw [hQ]
    exact gq_iret hC rfl dX11_titleWord_96
  · intro e_24 ho_25
    subst ho_25
    have hF : (some e_24) = some _ := hF
    refine gq_iload hC 0 dX11_titleWord_110 rfl ?_
    cases hF
    rw [hQ]
    exact gq_iret hC rfl dX11_titleWord_112
theorem hy_X11_title : yX11_title.cls = RX11 ∧ yX11_title.cls ≠ "java/lang/invoke/MethodHandle" ∧ yX11_title.cls ≠ "java/lang/invoke/VarHandle" ∧ (parseMethodDescriptor yX11_title.desc).map (fun d => d.parameters.length) = some 2 := by decide +kernel
set_option maxRecDepth 20000 in
set_option maxHeartbeats 4000000 in
theorem k_X11_title (l : Launch) (D : va_G) (cI cJ cZ cO : ClassId) (z : Nat → Nat)   (h_t_ : Nat) (h_a : Nat) (h_worthFrom : Nat) (h_cutsFrom : Nat) (h_endFrom : Nat) (h_changes : Nat) (h_waysFrom : Nat) (h_fresh : Nat) (h_kept : Nat) (h_buffer : Nat) (h_costAt : Nat) (h_places : Nat) (h_isCut : Nat) (h_written : Nat) (x1 : Int32) (x2 : Int32) (v_keptMany : Int32) (v_thrown : Int32) (v_buffered : Int32) (v_size : Int32) (v_at : Int32) (v_behind : Int32) (v_kind : Int32) (v_wrong : Int32) (v_wrongAt : Int32) (v_errorAt : Int32) (v_number : Int64) (v_toCut : Int32) (v_toLeave : Int32) (v_writtenMany : Int32) (v_a : Nat → Int64) (v_worthFrom : Nat → Int32) (v_cutsFrom : Nat → Int32) (v_endFrom : Nat → Int32) (v_changes : Nat → Int32) (v_waysFrom : Nat → Int64) (r_ : Int32) (w_thrown : Int32) (w_worthFrom : Nat → Int32) (w_cutsFrom : Nat → Int32) (w_endFrom : Nat → Int32) (w_changes : Nat → Int32) (w_waysFrom : Nat → Int64) (hF : F_X11_title x1 x2 v_thrown v_toCut v_toLeave v_a v_worthFrom v_cutsFrom v_endFrom v_changes v_waysFrom = some (r_, w_thrown, w_worthFrom, w_cutsFrom, w_endFrom, w_changes, w_waysFrom)) : Mi l yX11_title wsX11_title (rmD 7) D (gq_ty cI cJ cZ cO) z [.ref h_t_, .int x1, .int x2] [(h_t_, .inr (11, [.ref h_a, .ref h_fresh, .ref h_kept, .int v_keptMany, .int v_thrown, .ref h_buffer, .int v_buffered, .int v_size, .int v_at, .int v_behind, .int v_kind, .int v_wrong, .int v_wrongAt, .int v_errorAt, .long v_number, .ref h_worthFrom, .ref h_cutsFrom, .ref h_endFrom, .ref h_changes, .ref h_waysFrom, .int v_toCut, .int v_toLeave, .ref h_costAt, .ref h_places, .ref h_isCut, .ref h_written, .int v_writtenMany])), (h_a, .inl (cJ, 499, .inr (.inl v_a))), (h_worthFrom, .inl (cI, 33, .inl v_worthFrom)), (h_cutsFrom, .inl (cI, 33, .inl v_cutsFrom)), (h_endFrom, .inl (cI, 33, .inl v_endFrom)), (h_changes, .inl (cI, 32, .inl v_changes)), (h_waysFrom, .inl (cJ, 33, .inr (.inl v_waysFrom)))] r_ [(h_t_, .inr (11, [.ref h_a, .ref h_fresh, .ref h_kept, .int v_keptMany, .int w_thrown, .ref h_buffer, .int v_buffered, .int v_size, .int v_at, .int v_behind, .int v_kind, .int v_wrong, .int v_wrongAt, .int v_errorAt, .long v_number, .ref h_worthFrom, .ref h_cutsFrom, .ref h_endFrom, .ref h_changes, .ref h_waysFrom, .int v_toCut, .int v_toLeave, .ref h_costAt, .ref h_places, .ref h_isCut, .ref h_written, .int v_writtenMany])), (h_a, .inl (cJ, 499, .inr (.inl v_a))), (h_worthFrom, .inl (cI, 33, .inl w_worthFrom)), (h_cutsFrom, .inl (cI, 33, .inl w_cutsFrom)), (h_endFrom, .inl (cI, 33, .inl w_endFrom)), (h_changes, .inl (cI, 32, .inl w_changes)), (h_waysFrom, .inl (cJ, 33, .inr (.inl w_waysFrom)))] 0 0 := by
  refine Mi.of (cc := cX11_title) (maxL := 3) (by decide) rfl (Nat.le_of_ble_eq_true rfl) ⟨Nat.le_refl 0, Nat.le_refl 0⟩ ?_
  intro p e s m args below meth c A hC ha
  have hin_X11 : ∀ w ∈ wsX110, w ∈ wsX11_title := by decide +kernel
  have hw_79 : Cond.fieldLink RX11 79 (TX11 4).1 (TX11 4).2.1 (TX11 4).2.2.1 ∈ wsX11_title := by decide +kernel
  obtain ⟨Q, hQ⟩ : ∃ Q, Q = gq_Qi below D A args s r_ [(h_t_, .inr (11, [.ref h_a, .ref h_fresh, .ref h_kept, .int v_keptMany, .int w_thrown, .ref h_buffer, .int v_buffered, .int v_size, .int v_at, .int v_behind, .int v_kind, .int v_wrong, .int v_wrongAt, .int v_errorAt, .long v_number, .ref h_worthFrom, .ref h_cutsFrom, .ref h_endFrom, .ref h_changes, .ref h_waysFrom, .int v_toCut, .int v_toLeave, .ref h_costAt, .ref h_places, .ref h_isCut, .ref h_written, .int v_writtenMany])), (h_a, .inl (cJ, 499, .inr (.inl v_a))), (h_worthFrom, .inl (cI, 33, .inl w_worthFrom)), (h_cutsFrom, .inl (cI, 33, .inl w_cutsFrom)), (h_endFrom, .inl (cI, 33, .inl w_endFrom)), (h_changes, .inl (cI, 32, .inl w_changes)), (h_waysFrom, .inl (cJ, 33, .inr (.inl w_waysFrom)))] 0 0 := ⟨_, rfl⟩
  rw [← hQ]
  refine gq_loc [(0, .ref h_t_), (1, .int x1), (2, .int x2)] rfl ?_
  have jb33 : ∀ (v_thrown_1 : Int32) (v_worthFrom_2 : Nat → Int32) (v_cutsFrom_3 : Nat → Int32) (v_endFrom_4 : Nat → Int32) (v_changes_5 : Nat → Int32) (v_waysFrom_6 : Nat → Int64), F_X11_title_b33 x1 x2 v_thrown_1 v_a v_worthFrom_2 v_cutsFrom_3 v_endFrom_4 v_changes_5 v_waysFrom_6 = some (r_, w_thrown, w_worthFrom, w_cutsFrom, w_endFrom, w_changes, w_waysFrom) → Gx p l e (rmD 7) s m args below meth c D A 3 Q 0 0 33 [(0, .ref h_t_), (1, .int x1), (2, .int x2)] [] [(h_t_, .inr (11, [.ref h_a, .ref h_fresh, .ref h_kept, .int v_keptMany, .int v_thrown_1, .ref h_buffer, .int v_buffered, .int v_size, .int v_at, .int v_behind, .int v_kind, .int v_wrong, .int v_wrongAt, .int v_errorAt, .long v_number, .ref h_worthFrom, .ref h_cutsFrom, .ref h_endFrom, .ref h_changes, .ref h_waysFrom, .int v_toCut, .int v_toLeave, .ref h_costAt, .ref h_places, .ref h_isCut, .ref h_written, .int v_writtenMany])), (h_a, .inl (cJ, 499, .inr (.inl v_a))), (h_worthFrom, .inl (cI, 33, .inl v_worthFrom_2)), (h_cutsFrom, .inl (cI, 33, .inl v_cutsFrom_3)), (h_endFrom, .inl (cI, 33, .inl v_endFrom_4)), (h_changes, .inl (cI, 32, .inl v_changes_5)), (h_waysFrom, .inl (cJ, 33, .inr (.inl v_waysFrom_6)))] := by
    intro v_thrown_1 v_worthFrom_2 v_cutsFrom_3 v_endFrom_4 v_changes_5 v_waysFrom_6 hF
    unfold F_X11_title_b33 at hF
    refine gq_aload_n hC 0 dX11_title_33 rfl rfl ?_
    refine gq_get hC (kf := 4) 0 hin_X11 rfl rfl (by decide) hw_79 rfl dX11_title_34 ?_
    refine gq_if_le hC 44 dX11_title_37 (by decide) (fun hc_8 => ?_) (fun hc_8 => ?_)
    · have hF := (if_pos hc_8).symm.trans hF
      refine gq_aload_n hC 0 dX11_title_44 rfl rfl ?_
      refine gq_iload_n hC 1 dX11_title_45 rfl rfl ?_
      refine gq_iload_n hC 2 dX11_title_46 rfl rfl ?_
      obtain ⟨r_7, hc_, hF⟩ := ob1_e hF
      refine gq_callVi hC [0, 1, 3, 4] [(h_t_, .inr (11, [.ref h_a, .ref h_fresh, .ref h_kept, .int v_keptMany, .int v_thrown_1, .ref h_buffer, .int v_buffered, .int v_size, .int v_at, .int v_behind, .int v_kind, .int v_wrong, .int v_wrongAt, .int v_errorAt, .long v_number, .ref h_worthFrom, .ref h_cutsFrom, .ref h_endFrom, .ref h_changes, .ref h_waysFrom, .int v_toCut, .int v_toLeave, .ref h_costAt, .ref h_places, .ref h_isCut, .ref h_written, .int v_writtenMany])), (h_a, .inl (cJ, 499, .inr (.inl v_a))), (h_worthFrom, .inl (cI, 33, .inl v_worthFrom_2)), (h_cutsFrom, .inl (cI, 33, .inl v_cutsFrom_3)), (h_endFrom, .inl (cI, 33, .inl v_endFrom_4)), (h_changes, .inl (cI, 32, .inl v_changes_5)), (h_waysFrom, .inl (cJ, 33, .inr (.inl v_waysFrom_6)))] [.int x1, .int x2] [] (k_X11_titleWord l D cI cJ cZ cO z h_t_ h_a h_cutsFrom h_endFrom h_fresh h_kept h_buffer h_worthFrom h_changes h_waysFrom h_costAt h_places h_isCut h_written x1 x2 v_keptMany v_thrown_1 v_buffered v_size v_at v_behind v_kind v_wrong v_wrongAt v_errorAt v_number v_toCut v_toLeave v_writtenMany v_a v_cutsFrom_3 v_endFrom_4 r_7 hc_) gX11_title_X11_titleWord rfl ⟨rfl, rfl⟩ hy_X11_titleWord ⟨Nat.le_of_ble_eq_true rfl, Nat.le_of_ble_eq_true rfl⟩ rfl rfl rfl (q0 := 0) rfl rfl rfl (Nat.le_of_ble_eq_true rfl) rfl dX11_title_47 rfl rfl ?_
      cases hF
      rw [hQ]
      exact gq_iret hC rfl dX11_title_50
    · have hF := (if_neg hc_8).symm.trans hF
      refine gq_iconst hC (0 : Int32) dX11_title_40 (by decide) ?_
      refine gq_goto hC 50 dX11_title_41 (by decide) ?_
      cases hF
      rw [hQ]
      exact gq_iret hC rfl dX11_title_50
  unfold F_X11_title at hF
  refine gq_aload_n hC 0 dX11_title_0 rfl rfl ?_
  refine gq_aload_n hC 0 dX11_title_1 rfl rfl ?_
  refine gq_iload_n hC 1 dX11_title_2 rfl rfl ?_
  obtain ⟨r_9, v_worthFrom_10, v_cutsFrom_11, v_endFrom_12, v_changes_13, v_waysFrom_14, hc_, hF⟩ := ob6_e hF
  refine gq_callVi hC [0, 1, 2, 3, 4, 5, 6] [(h_t_, .inr (11, [.ref h_a, .ref h_fresh, .ref h_kept, .int v_keptMany, .int v_thrown, .ref h_buffer, .int v_buffered, .int v_size, .int v_at, .int v_behind, .int v_kind, .int v_wrong, .int v_wrongAt, .int v_errorAt, .long v_number, .ref h_worthFrom, .ref h_cutsFrom, .ref h_endFrom, .ref h_changes, .ref h_waysFrom, .int v_toCut, .int v_toLeave, .ref h_costAt, .ref h_places, .ref h_isCut, .ref h_written, .int v_writtenMany])), (h_a, .inl (cJ, 499, .inr (.inl v_a))), (h_worthFrom, .inl (cI, 33, .inl v_worthFrom_10)), (h_cutsFrom, .inl (cI, 33, .inl v_cutsFrom_11)), (h_endFrom, .inl (cI, 33, .inl v_endFrom_12)), (h_changes, .inl (cI, 32, .inl v_changes_13)), (h_waysFrom, .inl (cJ, 33, .inr (.inl v_waysFrom_14)))] [.int x1] [.ref h_t_] (k_X11_noChapter l D cI cJ cZ cO z h_t_ h_a h_worthFrom h_cutsFrom h_endFrom h_changes h_waysFrom h_fresh h_kept h_buffer h_costAt h_places h_isCut h_written x1 v_keptMany v_thrown v_buffered v_size v_at v_behind v_kind v_wrong v_wrongAt v_errorAt v_number v_toCut v_toLeave v_writtenMany v_a v_worthFrom v_cutsFrom v_endFrom v_changes v_waysFrom r_9 v_worthFrom_10 v_cutsFrom_11 v_endFrom_12 v_changes_13 v_waysFrom_14 hc_) gX11_title_X11_noChapter rfl ⟨rfl, rfl⟩ hy_X11_noChapter ⟨Nat.le_of_ble_eq_true rfl, Nat.le_of_ble_eq_true rfl⟩ rfl rfl rfl (q0 := 0) rfl rfl rfl (Nat.le_of_ble_eq_true rfl) rfl dX11_title_3 rfl rfl ?_
  refine gq_put1 hC (kf := 4) 0 [(h_t_, .inr (11, [.ref h_a, .ref h_fresh, .ref h_kept, .int v_keptMany, .int r_9, .ref h_buffer, .int v_buffered, .int v_size, .int v_at, .int v_behind, .int v_kind, .int v_wrong, .int v_wrongAt, .int v_errorAt, .long v_number, .ref h_worthFrom, .ref h_cutsFrom, .ref h_endFrom, .ref h_changes, .ref h_waysFrom, .int v_toCut, .int v_toLeave, .ref h_costAt, .ref h_places, .ref h_isCut, .ref h_written, .int v_writtenMany])), (h_a, .inl (cJ, 499, .inr (.inl v_a))), (h_worthFrom, .inl (cI, 33, .inl v_worthFrom_10)), (h_cutsFrom, .inl (cI, 33, .inl v_cutsFrom_11)), (h_endFrom, .inl (cI, 33, .inl v_endFrom_12)), (h_changes, .inl (cI, 32, .inl v_changes_13)), (h_waysFrom, .inl (cJ, 33, .inr (.inl v_waysFrom_14)))] tyX11 tyX11_ok nmX11 hin_X11 rfl rfl (by decide) hw_79 rfl rfl rfl (Nat.le_of_ble_eq_true rfl) dX11_title_6 rfl ?_
  refine gq_aload_n hC 0 dX11_title_9 rfl rfl ?_
  refine gq_get hC (kf := 4) 0 hin_X11 rfl rfl (by decide) hw_79 rfl dX11_title_10 ?_
  refine gq_if_ne hC 33 dX11_title_13 (by decide) (fun hc_17 => ?_) (fun hc_17 => ?_)
  · have hF := (if_neg hc_17).symm.trans hF
    exact jb33 r_9 v_worthFrom_10 v_cutsFrom_11 v_endFrom_12 v_changes_13 v_waysFrom_14 hF
  · have hF := (if_pos hc_17).symm.trans hF
    refine gq_iload_n hC 2 dX11_title_16 rfl rfl ?_
    refine gq_i2l hC dX11_title_17 ?_
    refine gq_lconst hC (0 : Int64) dX11_title_18 (by decide) ?_
    refine gq_ldc2 hC (2 : Int64) dX11_title_19 (by decide +kernel) ?_
    obtain ⟨r_15, hc_, hF⟩ := ob1_e hF
    refine gq_callSi hC [] [(h_t_, .inr (11, [.ref h_a, .ref h_fresh, .ref h_kept, .int v_keptMany, .int r_9, .ref h_buffer, .int v_buffered, .int v_size, .int v_at, .int v_behind, .int v_kind, .int v_wrong, .int v_wrongAt, .int v_errorAt, .long v_number, .ref h_worthFrom, .ref h_cutsFrom, .ref h_endFrom, .ref h_changes, .ref h_waysFrom, .int v_toCut, .int v_toLeave, .ref h_costAt, .ref h_places, .ref h_isCut, .ref h_written, .int v_writtenMany])), (h_a, .inl (cJ, 499, .inr (.inl v_a))), (h_worthFrom, .inl (cI, 33, .inl v_worthFrom_10)), (h_cutsFrom, .inl (cI, 33, .inl v_cutsFrom_11)), (h_endFrom, .inl (cI, 33, .inl v_endFrom_12)), (h_changes, .inl (cI, 32, .inl v_changes_13)), (h_waysFrom, .inl (cJ, 33, .inr (.inl v_waysFrom_14)))] [.long (x2.toInt64), .long (0 : Int64), .long (2 : Int64)] [] (k_X11_isIn l D cI cJ cZ cO z  (x2.toInt64) (0 : Int64) (2 : Int64) r_15 hc_) gX11_title_X11_isIn rfl ⟨rfl, rfl⟩ hy_X11_isIn rfl ⟨Nat.le_of_ble_eq_true rfl, Nat.le_of_ble_eq_true rfl⟩ rfl rfl rfl (Nat.le_of_ble_eq_true rfl) rfl dX11_title_22 rfl rfl ?_
    refine gq_if_ne hC 33 dX11_title_25 (by decide) (fun hc_16 => ?_) (fun hc_16 => ?_)
    · have hF := (if_neg hc_16).symm.trans hF
      exact jb33 r_9 v_worthFrom_10 v_cutsFrom_11 v_endFrom_12 v_changes_13 v_waysFrom_14 hF
    · have hF := (if_pos hc_16).symm.trans hF
      refine gq_aload_n hC 0 dX11_title_28 rfl rfl ?_
      refine gq_iconst hC (2 : Int32) dX11_title_29 (by decide) ?_
      refine gq_put1 hC (kf := 4) 0 [(h_t_, .inr (11, [.ref h_a, .ref h_fresh, .ref h_kept, .int v_keptMany, .int (2 : Int32), .ref h_buffer, .int v_buffered, .int v_size, .int v_at, .int v_behind, .int v_kind, .int v_wrong, .int v_wrongAt, .int v_errorAt, .long v_number, .ref h_worthFrom, .ref h_cutsFrom, .ref h_endFrom, .ref h_changes, .ref h_waysFrom, .int v_toCut, .int v_toLeave, .ref h_costAt, .ref h_places, .ref h_isCut, .ref h_written, .int v_writtenMany])), (h_a, .inl (cJ, 499, .inr (.inl v_a))), (h_worthFrom, .inl (cI, 33, .inl v_worthFrom_10)), (h_cutsFrom, .inl (cI, 33, .inl v_cutsFrom_11)), (h_endFrom, .inl (cI, 33, .inl v_endFrom_12)), (h_changes, .inl (cI, 32, .inl v_changes_13)), (h_waysFrom, .inl (cJ, 33, .inr (.inl v_waysFrom_14)))] tyX11 tyX11_ok nmX11 hin_X11 rfl rfl (by decide) hw_79 rfl rfl rfl (Nat.le_of_ble_eq_true rfl) dX11_title_30 rfl ?_
      exact jb33 (2 : Int32) v_worthFrom_10 v_cutsFrom_11 v_endFrom_12 v_changes_13 v_waysFrom_14 hF
theorem hy_X11_addSlot : yX11_addSlot.cls = RX11 ∧ yX11_addSlot.cls ≠ "java/lang/invoke/MethodHandle" ∧ yX11_addSlot.cls ≠ "java/lang/invoke/VarHandle" ∧ (parseMethodDescriptor yX11_addSlot.desc).map (fun d => d.parameters.length) = some 3 := by decide +kernel
set_option maxRecDepth 20000 in
set_option maxHeartbeats 4000000 in
theorem k_X11_addSlot (l : Launch) (D : va_G) (cI cJ cZ cO : ClassId) (z : Nat → Nat)   (h_t_ : Nat) (h_a : Nat) (h_kept : Nat) (h_fresh : Nat) (h_buffer : Nat) (h_worthFrom : Nat) (h_cutsFrom : Nat) (h_endFrom : Nat) (h_changes : Nat) (h_waysFrom : Nat) (h_costAt : Nat) (h_places : Nat) (h_isCut : Nat) (h_written : Nat) (x1 : Int32) (x2 : Int32) (x3 : Int32) (v_keptMany : Int32) (v_thrown : Int32) (v_buffered : Int32) (v_size : Int32) (v_at : Int32) (v_behind : Int32) (v_kind : Int32) (v_wrong : Int32) (v_wrongAt : Int32) (v_errorAt : Int32) (v_number : Int64) (v_toCut : Int32) (v_toLeave : Int32) (v_writtenMany : Int32) (v_a : Nat → Int64) (v_kept : Nat → Int64) (r_ : Int32) (w_keptMany : Int32) (w_thrown : Int32) (w_a : Nat → Int64) (w_kept : Nat → Int64) (hF : F_X11_addSlot x1 x2 x3 v_keptMany v_thrown v_a v_kept = some (r_, w_keptMany, w_thrown, w_a, w_kept)) : Mi l yX11_addSlot wsX11_addSlot (rmD 1) D (gq_ty cI cJ cZ cO) z [.ref h_t_, .int x1, .int x2, .int x3] [(h_t_, .inr (11, [.ref h_a, .ref h_fresh, .ref h_kept, .int v_keptMany, .int v_thrown, .ref h_buffer, .int v_buffered, .int v_size, .int v_at, .int v_behind, .int v_kind, .int v_wrong, .int v_wrongAt, .int v_errorAt, .long v_number, .ref h_worthFrom, .ref h_cutsFrom, .ref h_endFrom, .ref h_changes, .ref h_waysFrom, .int v_toCut, .int v_toLeave, .ref h_costAt, .ref h_places, .ref h_isCut, .ref h_written, .int v_writtenMany])), (h_a, .inl (cJ, 499, .inr (.inl v_a))), (h_kept, .inl (cJ, 3992, .inr (.inl v_kept)))] r_ [(h_t_, .inr (11, [.ref h_a, .ref h_fresh, .ref h_kept, .int w_keptMany, .int w_thrown, .ref h_buffer, .int v_buffered, .int v_size, .int v_at, .int v_behind, .int v_kind, .int v_wrong, .int v_wrongAt, .int v_errorAt, .long v_number, .ref h_worthFrom, .ref h_cutsFrom, .ref h_endFrom, .ref h_changes, .ref h_waysFrom, .int v_toCut, .int v_toLeave, .ref h_costAt, .ref h_places, .ref h_isCut, .ref h_written, .int v_writtenMany])), (h_a, .inl (cJ, 499, .inr (.inl w_a))), (h_kept, .inl (cJ, 3992, .inr (.inl w_kept)))] 0 0 := by
  refine Mi.of (cc := cX11_addSlot) (maxL := 5) (by decide) rfl (Nat.le_of_ble_eq_true rfl) ⟨Nat.le_refl 0, Nat.le_refl 0⟩ ?_
  intro p e s m args below meth c A hC ha
  have hin_X11 : ∀ w ∈ wsX110, w ∈ wsX11_addSlot := by decide +kernel
  have hw_9 : Cond.fieldLink RX11 9 (TX11 0).1 (TX11 0).2.1 (TX11 0).2.2.1 ∈ wsX11_addSlot := by decide +kernel
  have hw_79 : Cond.fieldLink RX11 79 (TX11 4).1 (TX11 4).2.1 (TX11 4).2.2.1 ∈ wsX11_addSlot := by decide +kernel
  obtain ⟨Q, hQ⟩ : ∃ Q, Q = gq_Qi below D A args s r_ [(h_t_, .inr (11, [.ref h_a, .ref h_fresh, .ref h_kept, .int w_keptMany, .int w_thrown, .ref h_buffer, .int v_buffered, .int v_size, .int v_at, .int v_behind, .int v_kind, .int v_wrong, .int v_wrongAt, .int v_errorAt, .long v_number, .ref h_worthFrom, .ref h_cutsFrom, .ref h_endFrom, .ref h_changes, .ref h_waysFrom, .int v_toCut, .int v_toLeave, .ref h_costAt, .ref h_places, .ref h_isCut, .ref h_written, .int v_writtenMany])), (h_a, .inl (cJ, 499, .inr (.inl w_a))), (h_kept, .inl (cJ, 3992, .inr (.inl w_kept)))] 0 0 := ⟨_, rfl⟩
  rw [← hQ]
  refine gq_loc [(0, .ref h_t_), (1, .int x1), (2, .int x2), (3, .int x3)] rfl ?_
  have jb72 : ∀ (st_1 : Int32) (v_keptMany_2 : Int32) (v_thrown_3 : Int32) (v_a_4 : Nat → Int64) (v_kept_5 : Nat → Int64), F_X11_addSlot_b72 x1 x2 x3 st_1 v_keptMany_2 v_thrown_3 v_a_4 v_kept_5 = some (r_, w_keptMany, w_thrown, w_a, w_kept) → Gx p l e (rmD 1) s m args below meth c D A 5 Q 0 0 72 [(0, .ref h_t_), (1, .int x1), (2, .int x2), (3, .int x3)] [.int st_1, .ref h_t_] [(h_t_, .inr (11, [.ref h_a, .ref h_fresh, .ref h_kept, .int v_keptMany_2, .int v_thrown_3, .ref h_buffer, .int v_buffered, .int v_size, .int v_at, .int v_behind, .int v_kind, .int v_wrong, .int v_wrongAt, .int v_errorAt, .long v_number, .ref h_worthFrom, .ref h_cutsFrom, .ref h_endFrom, .ref h_changes, .ref h_waysFrom, .int v_toCut, .int v_toLeave, .ref h_costAt, .ref h_places, .ref h_isCut, .ref h_written, .int v_writtenMany])), (h_a, .inl (cJ, 499, .inr (.inl v_a_4))), (h_kept, .inl (cJ, 3992, .inr (.inl v_kept_5)))] := by
    intro st_1 v_keptMany_2 v_thrown_3 v_a_4 v_kept_5 hF
    unfold F_X11_addSlot_b72 at hF
    refine gq_put1 hC (kf := 4) 0 [(h_t_, .inr (11, [.ref h_a, .ref h_fresh, .ref h_kept, .int v_keptMany_2, .int st_1, .ref h_buffer, .int v_buffered, .int v_size, .int v_at, .int v_behind, .int v_kind, .int v_wrong, .int v_wrongAt, .int v_errorAt, .long v_number, .ref h_worthFrom, .ref h_cutsFrom, .ref h_endFrom, .ref h_changes, .ref h_waysFrom, .int v_toCut, .int v_toLeave, .ref h_costAt, .ref h_places, .ref h_isCut, .ref h_written, .int v_writtenMany])), (h_a, .inl (cJ, 499, .inr (.inl v_a_4))), (h_kept, .inl (cJ, 3992, .inr (.inl v_kept_5)))] tyX11 tyX11_ok nmX11 hin_X11 rfl rfl (by decide) hw_79 rfl rfl rfl (Nat.le_of_ble_eq_true rfl) dX11_addSlot_72 rfl ?_
    refine gq_aload_n hC 0 dX11_addSlot_75 rfl rfl ?_
    refine gq_get hC (kf := 4) 0 hin_X11 rfl rfl (by decide) hw_79 rfl dX11_addSlot_76 ?_
    refine gq_if_le hC 84 dX11_addSlot_79 (by decide) (fun hc_10 => ?_) (fun hc_10 => ?_)
    · have hF := (if_pos hc_10).symm.trans hF
      refine gq_aload_n hC 0 dX11_addSlot_84 rfl rfl ?_
      obtain ⟨v_keptMany_6, v_kept_7, hc_, hF⟩ := ob2_e hF
      refine gq_callVv hC [0, 1, 2] [(h_t_, .inr (11, [.ref h_a, .ref h_fresh, .ref h_kept, .int v_keptMany_6, .int st_1, .ref h_buffer, .int v_buffered, .int v_size, .int v_at, .int v_behind, .int v_kind, .int v_wrong, .int v_wrongAt, .int v_errorAt, .long v_number, .ref h_worthFrom, .ref h_cutsFrom, .ref h_endFrom, .ref h_changes, .ref h_waysFrom, .int v_toCut, .int v_toLeave, .ref h_costAt, .ref h_places, .ref h_isCut, .ref h_written, .int v_writtenMany])), (h_a, .inl (cJ, 499, .inr (.inl v_a_4))), (h_kept, .inl (cJ, 3992, .inr (.inl v_kept_7)))] [] [] (k_X11_keeps l D cI cJ cZ cO z h_t_ h_a h_kept h_fresh h_buffer h_worthFrom h_cutsFrom h_endFrom h_changes h_waysFrom h_costAt h_places h_isCut h_written v_keptMany_2 st_1 v_buffered v_size v_at v_behind v_kind v_wrong v_wrongAt v_errorAt v_number v_toCut v_toLeave v_writtenMany v_a_4 v_kept_5 v_keptMany_6 v_kept_7 hc_) gX11_addSlot_X11_keeps rfl ⟨rfl, rfl⟩ hy_X11_keeps ⟨Nat.le_of_ble_eq_true rfl, Nat.le_of_ble_eq_true rfl⟩ rfl rfl rfl (q0 := 0) rfl rfl rfl (Nat.le_of_ble_eq_true rfl) rfl dX11_addSlot_85 rfl rfl ?_
      refine gq_aload_n hC 0 dX11_addSlot_88 rfl rfl ?_
      refine gq_get hC (kf := 0) 0 hin_X11 rfl rfl (by decide) hw_9 rfl dX11_addSlot_89 ?_
      refine gq_iload_n hC 1 dX11_addSlot_92 rfl rfl ?_
      refine gq_iload_n hC 2 dX11_addSlot_93 rfl rfl ?_
      refine gq_iload_n hC 3 dX11_addSlot_94 rfl rfl ?_
      obtain ⟨r_8, v_a_9, hc_, hF⟩ := ob2_e hF
      refine gq_callSi hC [1] [(h_t_, .inr (11, [.ref h_a, .ref h_fresh, .ref h_kept, .int v_keptMany_6, .int st_1, .ref h_buffer, .int v_buffered, .int v_size, .int v_at, .int v_behind, .int v_kind, .int v_wrong, .int v_wrongAt, .int v_errorAt, .long v_number, .ref h_worthFrom, .ref h_cutsFrom, .ref h_endFrom, .ref h_changes, .ref h_waysFrom, .int v_toCut, .int v_toLeave, .ref h_costAt, .ref h_places, .ref h_isCut, .ref h_written, .int v_writtenMany])), (h_a, .inl (cJ, 499, .inr (.inl v_a_9))), (h_kept, .inl (cJ, 3992, .inr (.inl v_kept_7)))] [.ref h_a, .int x1, .int x2, .int x3] [] (k_X11_putsSlot l D cI cJ cZ cO z 499 h_a x1 x2 x3 v_a_4 r_8 v_a_9 hc_) gX11_addSlot_X11_putsSlot rfl ⟨rfl, rfl⟩ hy_X11_putsSlot rfl ⟨Nat.le_of_ble_eq_true rfl, Nat.le_of_ble_eq_true rfl⟩ rfl rfl rfl (Nat.le_of_ble_eq_true rfl) rfl dX11_addSlot_95 rfl rfl ?_
      cases hF
      rw [hQ]
      exact gq_iret hC rfl dX11_addSlot_98
    · have hF := (if_neg hc_10).symm.trans hF
      refine gq_iconst hC (0 : Int32) dX11_addSlot_82 (by decide) ?_
      cases hF
      rw [hQ]
      exact gq_iret hC rfl dX11_addSlot_83
  have jb41 : ∀ (st_11 : Int32) (v_keptMany_12 : Int32) (v_thrown_13 : Int32) (v_a_14 : Nat → Int64) (v_kept_15 : Nat → Int64), F_X11_addSlot_b41 x1 x2 x3 st_11 v_keptMany_12 v_thrown_13 v_a_14 v_kept_15 = some (r_, w_keptMany, w_thrown, w_a, w_kept) → Gx p l e (rmD 1) s m args below meth c D A 5 Q 0 0 41 [(0, .ref h_t_), (1, .int x1), (2, .int x2), (3, .int x3)] [.int st_11] [(h_t_, .inr (11, [.ref h_a, .ref h_fresh, .ref h_kept, .int v_keptMany_12, .int v_thrown_13, .ref h_buffer, .int v_buffered, .int v_size, .int v_at, .int v_behind, .int v_kind, .int v_wrong, .int v_wrongAt, .int v_errorAt, .long v_number, .ref h_worthFrom, .ref h_cutsFrom, .ref h_endFrom, .ref h_changes, .ref h_waysFrom, .int v_toCut, .int v_toLeave, .ref h_costAt, .ref h_places, .ref h_isCut, .ref h_written, .int v_writtenMany])), (h_a, .inl (cJ, 499, .inr (.inl v_a_14))), (h_kept, .inl (cJ, 3992, .inr (.inl v_kept_15)))] := by
    intro st_11 v_keptMany_12 v_thrown_13 v_a_14 v_kept_15 hF
    unfold F_X11_addSlot_b41 at hF
    refine gq_istore hC [(4, .int st_11), (0, .ref h_t_), (1, .int x1), (2, .int x2), (3, .int x3)] dX11_addSlot_41 (by decide) rfl ?_
    refine gq_aload_n hC 1 dX11_addSlot_43 rfl rfl ?_
    refine gq_iload hC 0 dX11_addSlot_44 rfl ?_
    refine gq_if_ne hC 53 dX11_addSlot_46 (by decide) (fun hc_18 => ?_) (fun hc_18 => ?_)
    · have hF := (if_neg hc_18).symm.trans hF
      refine gq_aload_n hC 1 dX11_addSlot_53 rfl rfl ?_
      refine gq_get hC (kf := 0) 0 hin_X11 rfl rfl (by decide) hw_9 rfl dX11_addSlot_54 ?_
      refine gq_bipush hC (8 : Int32) dX11_addSlot_57 (by decide) ?_
      obtain ⟨hi_16, hF⟩ := gi_e hF
      refine gq_lald hC 1 1 rfl rfl hi_16 dX11_addSlot_59 ?_
      refine gq_ldc2 hC (5 : Int64) dX11_addSlot_60 (by decide +kernel) ?_
      refine gq_lcmp hC dX11_addSlot_63 ?_
      refine gq_if_ne hC 71 dX11_addSlot_64 (by decide) (fun hc_17 => ?_) (fun hc_17 => ?_)
      · have hF := (if_neg hc_17).symm.trans hF
        refine gq_iconst hC (0 : Int32) dX11_addSlot_71 (by decide) ?_
        refine gq_sub [(0, .ref h_t_), (1, .int x1), (2, .int x2), (3, .int x3)] [1, 2, 3, 4] rfl ?_
        exact jb72 (0 : Int32) v_keptMany_12 v_thrown_13 v_a_14 v_kept_15 hF
      · have hF := (if_pos hc_17).symm.trans hF
        refine gq_iconst hC (2 : Int32) dX11_addSlot_67 (by decide) ?_
        refine gq_goto hC 72 dX11_addSlot_68 (by decide) ?_
        refine gq_sub [(0, .ref h_t_), (1, .int x1), (2, .int x2), (3, .int x3)] [1, 2, 3, 4] rfl ?_
        exact jb72 (2 : Int32) v_keptMany_12 v_thrown_13 v_a_14 v_kept_15 hF
    · have hF := (if_pos hc_18).symm.trans hF
      refine gq_iconst hC (1 : Int32) dX11_addSlot_49 (by decide) ?_
      refine gq_goto hC 72 dX11_addSlot_50 (by decide) ?_
      refine gq_sub [(0, .ref h_t_), (1, .int x1), (2, .int x2), (3, .int x3)] [1, 2, 3, 4] rfl ?_
      exact jb72 (1 : Int32) v_keptMany_12 v_thrown_13 v_a_14 v_kept_15 hF
  have jb40 : ∀ (v_keptMany_19 : Int32) (v_thrown_20 : Int32) (v_a_21 : Nat → Int64) (v_kept_22 : Nat → Int64), F_X11_addSlot_b40 x1 x2 x3 v_keptMany_19 v_thrown_20 v_a_21 v_kept_22 = some (r_, w_keptMany, w_thrown, w_a, w_kept) → Gx p l e (rmD 1) s m args below meth c D A 5 Q 0 0 40 [(0, .ref h_t_), (1, .int x1), (2, .int x2), (3, .int x3)] [] [(h_t_, .inr (11, [.ref h_a, .ref h_fresh, .ref h_kept, .int v_keptMany_19, .int v_thrown_20, .ref h_buffer, .int v_buffered, .int v_size, .int v_at, .int v_behind, .int v_kind, .int v_wrong, .int v_wrongAt, .int v_errorAt, .long v_number, .ref h_worthFrom, .ref h_cutsFrom, .ref h_endFrom, .ref h_changes, .ref h_waysFrom, .int v_toCut, .int v_toLeave, .ref h_costAt, .ref h_places, .ref h_isCut, .ref h_written, .int v_writtenMany])), (h_a, .inl (cJ, 499, .inr (.inl v_a_21))), (h_kept, .inl (cJ, 3992, .inr (.inl v_kept_22)))] := by
    intro v_keptMany_19 v_thrown_20 v_a_21 v_kept_22 hF
    unfold F_X11_addSlot_b40 at hF
    refine gq_iconst hC (0 : Int32) dX11_addSlot_40 (by decide) ?_
    exact jb41 (0 : Int32) v_keptMany_19 v_thrown_20 v_a_21 v_kept_22 hF
  unfold F_X11_addSlot at hF
  refine gq_iload_n hC 1 dX11_addSlot_0 rfl rfl ?_
  refine gq_i2l hC dX11_addSlot_1 ?_
  refine gq_lconst hC (0 : Int64) dX11_addSlot_2 (by decide) ?_
  refine gq_ldc2 hC (9999 : Int64) dX11_addSlot_3 (by decide +kernel) ?_
  obtain ⟨r_23, hc_, hF⟩ := ob1_e hF
  refine gq_callSi hC [] [(h_t_, .inr (11, [.ref h_a, .ref h_fresh, .ref h_kept, .int v_keptMany, .int v_thrown, .ref h_buffer, .int v_buffered, .int v_size, .int v_at, .int v_behind, .int v_kind, .int v_wrong, .int v_wrongAt, .int v_errorAt, .long v_number, .ref h_worthFrom, .ref h_cutsFrom, .ref h_endFrom, .ref h_changes, .ref h_waysFrom, .int v_toCut, .int v_toLeave, .ref h_costAt, .ref h_places, .ref h_isCut, .ref h_written, .int v_writtenMany])), (h_a, .inl (cJ, 499, .inr (.inl v_a))), (h_kept, .inl (cJ, 3992, .inr (.inl v_kept)))] [.long (x1.toInt64), .long (0 : Int64), .long (9999 : Int64)] [] (k_X11_isIn l D cI cJ cZ cO z  (x1.toInt64) (0 : Int64) (9999 : Int64) r_23 hc_) gX11_addSlot_X11_isIn rfl ⟨rfl, rfl⟩ hy_X11_isIn rfl ⟨Nat.le_of_ble_eq_true rfl, Nat.le_of_ble_eq_true rfl⟩ rfl rfl rfl (Nat.le_of_ble_eq_true rfl) rfl dX11_addSlot_6 rfl rfl ?_
  refine gq_if_eq hC 40 dX11_addSlot_9 (by decide) (fun hc_28 => ?_) (fun hc_28 => ?_)
  · have hF := (if_pos hc_28).symm.trans hF
    exact jb40 v_keptMany v_thrown v_a v_kept hF
  · have hF := (if_neg hc_28).symm.trans hF
    refine gq_iload_n hC 2 dX11_addSlot_12 rfl rfl ?_
    refine gq_i2l hC dX11_addSlot_13 ?_
    refine gq_lconst hC (1 : Int64) dX11_addSlot_14 (by decide) ?_
    refine gq_ldc2 hC (300 : Int64) dX11_addSlot_15 (by decide +kernel) ?_
    obtain ⟨r_24, hc_, hF⟩ := ob1_e hF
    refine gq_callSi hC [] [(h_t_, .inr (11, [.ref h_a, .ref h_fresh, .ref h_kept, .int v_keptMany, .int v_thrown, .ref h_buffer, .int v_buffered, .int v_size, .int v_at, .int v_behind, .int v_kind, .int v_wrong, .int v_wrongAt, .int v_errorAt, .long v_number, .ref h_worthFrom, .ref h_cutsFrom, .ref h_endFrom, .ref h_changes, .ref h_waysFrom, .int v_toCut, .int v_toLeave, .ref h_costAt, .ref h_places, .ref h_isCut, .ref h_written, .int v_writtenMany])), (h_a, .inl (cJ, 499, .inr (.inl v_a))), (h_kept, .inl (cJ, 3992, .inr (.inl v_kept)))] [.long (x2.toInt64), .long (1 : Int64), .long (300 : Int64)] [] (k_X11_isIn l D cI cJ cZ cO z  (x2.toInt64) (1 : Int64) (300 : Int64) r_24 hc_) gX11_addSlot_X11_isIn rfl ⟨rfl, rfl⟩ hy_X11_isIn rfl ⟨Nat.le_of_ble_eq_true rfl, Nat.le_of_ble_eq_true rfl⟩ rfl rfl rfl (Nat.le_of_ble_eq_true rfl) rfl dX11_addSlot_18 rfl rfl ?_
    refine gq_if_eq hC 40 dX11_addSlot_21 (by decide) (fun hc_27 => ?_) (fun hc_27 => ?_)
    · have hF := (if_pos hc_27).symm.trans hF
      exact jb40 v_keptMany v_thrown v_a v_kept hF
    · have hF := (if_neg hc_27).symm.trans hF
      refine gq_iload_n hC 3 dX11_addSlot_24 rfl rfl ?_
      refine gq_i2l hC dX11_addSlot_25 ?_
      refine gq_lconst hC (0 : Int64) dX11_addSlot_26 (by decide) ?_
      refine gq_ldc2 hC (999 : Int64) dX11_addSlot_27 (by decide +kernel) ?_
      obtain ⟨r_25, hc_, hF⟩ := ob1_e hF
      refine gq_callSi hC [] [(h_t_, .inr (11, [.ref h_a, .ref h_fresh, .ref h_kept, .int v_keptMany, .int v_thrown, .ref h_buffer, .int v_buffered, .int v_size, .int v_at, .int v_behind, .int v_kind, .int v_wrong, .int v_wrongAt, .int v_errorAt, .long v_number, .ref h_worthFrom, .ref h_cutsFrom, .ref h_endFrom, .ref h_changes, .ref h_waysFrom, .int v_toCut, .int v_toLeave, .ref h_costAt, .ref h_places, .ref h_isCut, .ref h_written, .int v_writtenMany])), (h_a, .inl (cJ, 499, .inr (.inl v_a))), (h_kept, .inl (cJ, 3992, .inr (.inl v_kept)))] [.long (x3.toInt64), .long (0 : Int64), .long (999 : Int64)] [] (k_X11_isIn l D cI cJ cZ cO z  (x3.toInt64) (0 : Int64) (999 : Int64) r_25 hc_) gX11_addSlot_X11_isIn rfl ⟨rfl, rfl⟩ hy_X11_isIn rfl ⟨Nat.le_of_ble_eq_true rfl, Nat.le_of_ble_eq_true rfl⟩ rfl rfl rfl (Nat.le_of_ble_eq_true rfl) rfl dX11_addSlot_30 rfl rfl ?_
      refine gq_if_eq hC 40 dX11_addSlot_33 (by decide) (fun hc_26 => ?_) (fun hc_26 => ?_)
      · have hF := (if_pos hc_26).symm.trans hF
        exact jb40 v_keptMany v_thrown v_a v_kept hF
      · have hF := (if_neg hc_26).symm.trans hF
        refine gq_iconst hC (1 : Int32) dX11_addSlot_36 (by decide) ?_
        refine gq_goto hC 41 dX11_addSlot_37 (by decide) ?_
        exact jb41 (1 : Int32) v_keptMany v_thrown v_a v_kept hF
theorem hy_X11_isSlot : yX11_isSlot.cls = RX11 ∧ yX11_isSlot.cls ≠ "java/lang/invoke/MethodHandle" ∧ yX11_isSlot.cls ≠ "java/lang/invoke/VarHandle" ∧ (parseMethodDescriptor yX11_isSlot.desc).map (fun d => d.parameters.length) = some 1 := by decide +kernel
set_option maxRecDepth 20000 in
set_option maxHeartbeats 4000000 in
theorem k_X11_isSlot (l : Launch) (D : va_G) (cI cJ cZ cO : ClassId) (z : Nat → Nat)   (h_t_ : Nat) (h_a : Nat) (h_fresh : Nat) (h_kept : Nat) (h_buffer : Nat) (h_worthFrom : Nat) (h_cutsFrom : Nat) (h_endFrom : Nat) (h_changes : Nat) (h_waysFrom : Nat) (h_costAt : Nat) (h_places : Nat) (h_isCut : Nat) (h_written : Nat) (x1 : Int32) (v_keptMany : Int32) (v_thrown : Int32) (v_buffered : Int32) (v_size : Int32) (v_at : Int32) (v_behind : Int32) (v_kind : Int32) (v_wrong : Int32) (v_wrongAt : Int32) (v_errorAt : Int32) (v_number : Int64) (v_toCut : Int32) (v_toLeave : Int32) (v_writtenMany : Int32) (v_a : Nat → Int64) (r_ : Int32) (hF : F_X11_isSlot x1 v_a = some r_) : Mi l yX11_isSlot wsX11_isSlot (rmD 1) D (gq_ty cI cJ cZ cO) z [.ref h_t_, .int x1] [(h_t_, .inr (11, [.ref h_a, .ref h_fresh, .ref h_kept, .int v_keptMany, .int v_thrown, .ref h_buffer, .int v_buffered, .int v_size, .int v_at, .int v_behind, .int v_kind, .int v_wrong, .int v_wrongAt, .int v_errorAt, .long v_number, .ref h_worthFrom, .ref h_cutsFrom, .ref h_endFrom, .ref h_changes, .ref h_waysFrom, .int v_toCut, .int v_toLeave, .ref h_costAt, .ref h_places, .ref h_isCut, .ref h_written, .int v_writtenMany])), (h_a, .inl (cJ, 499, .inr (.inl v_a)))] r_ [(h_t_, .inr (11, [.ref h_a, .ref h_fresh, .ref h_kept, .int v_keptMany, .int v_thrown, .ref h_buffer, .int v_buffered, .int v_size, .int v_at, .int v_behind, .int v_kind, .int v_wrong, .int v_wrongAt, .int v_errorAt, .long v_number, .ref h_worthFrom, .ref h_cutsFrom, .ref h_endFrom, .ref h_changes, .ref h_waysFrom, .int v_toCut, .int v_toLeave, .ref h_costAt, .ref h_places, .ref h_isCut, .ref h_written, .int v_writtenMany])), (h_a, .inl (cJ, 499, .inr (.inl v_a)))] 0 0 := by
  refine Mi.of (cc := cX11_isSlot) (maxL := 2) (by decide) rfl (Nat.le_of_ble_eq_true rfl) ⟨Nat.le_refl 0, Nat.le_refl 0⟩ ?_
  intro p e s m args below meth c A hC ha
  have hin_X11 : ∀ w ∈ wsX110, w ∈ wsX11_isSlot := by decide +kernel
  have hw_9 : Cond.fieldLink RX11 9 (TX11 0).1 (TX11 0).2.1 (TX11 0).2.2.1 ∈ wsX11_isSlot := by decide +kernel
  obtain ⟨Q, hQ⟩ : ∃ Q, Q = gq_Qi below D A args s r_ [(h_t_, .inr (11, [.ref h_a, .ref h_fresh, .ref h_kept, .int v_keptMany, .int v_thrown, .ref h_buffer, .int v_buffered, .int v_size, .int v_at, .int v_behind, .int v_kind, .int v_wrong, .int v_wrongAt, .int v_errorAt, .long v_number, .ref h_worthFrom, .ref h_cutsFrom, .ref h_endFrom, .ref h_changes, .ref h_waysFrom, .int v_toCut, .int v_toLeave, .ref h_costAt, .ref h_places, .ref h_isCut, .ref h_written, .int v_writtenMany])), (h_a, .inl (cJ, 499, .inr (.inl v_a)))] 0 0 := ⟨_, rfl⟩
  rw [← hQ]
  refine gq_loc [(0, .ref h_t_), (1, .int x1)] rfl ?_
  unfold F_X11_isSlot at hF
  refine gq_iload_n hC 1 dX11_isSlot_0 rfl rfl ?_
  refine gq_i2l hC dX11_isSlot_1 ?_
  refine gq_lconst hC (0 : Int64) dX11_isSlot_2 (by decide) ?_
  refine gq_aload_n hC 0 dX11_isSlot_3 rfl rfl ?_
  refine gq_get hC (kf := 0) 0 hin_X11 rfl rfl (by decide) hw_9 rfl dX11_isSlot_4 ?_
  refine gq_bipush hC (8 : Int32) dX11_isSlot_7 (by decide) ?_
  obtain ⟨hi_1, hF⟩ := gi_e hF
  refine gq_lald hC 1 1 rfl rfl hi_1 dX11_isSlot_9 ?_
  refine gq_lconst hC (1 : Int64) dX11_isSlot_10 (by decide) ?_
  refine gq_lsub hC dX11_isSlot_11 ?_
  obtain ⟨r_2, hc_, hF⟩ := ob1_e hF
  refine gq_callSi hC [] [(h_t_, .inr (11, [.ref h_a, .ref h_fresh, .ref h_kept, .int v_keptMany, .int v_thrown, .ref h_buffer, .int v_buffered, .int v_size, .int v_at, .int v_behind, .int v_kind, .int v_wrong, .int v_wrongAt, .int v_errorAt, .long v_number, .ref h_worthFrom, .ref h_cutsFrom, .ref h_endFrom, .ref h_changes, .ref h_waysFrom, .int v_toCut, .int v_toLeave, .ref h_costAt, .ref h_places, .ref h_isCut, .ref h_written, .int v_writtenMany])), (h_a, .inl (cJ, 499, .inr (.inl v_a)))] [.long (x1.toInt64), .long (0 : Int64), .long ((v_a (8 : Int32).toNatClampNeg) - (1 : Int64))] [] (k_X11_isIn l D cI cJ cZ cO z  (x1.toInt64) (0 : Int64) ((v_a (8 : Int32).toNatClampNeg) - (1 : Int64)) r_2 hc_) gX11_isSlot_X11_isIn rfl ⟨rfl, rfl⟩ hy_X11_isIn rfl ⟨Nat.le_of_ble_eq_true rfl, Nat.le_of_ble_eq_true rfl⟩ rfl rfl rfl (Nat.le_of_ble_eq_true rfl) rfl dX11_isSlot_12 rfl rfl ?_
  obtain ⟨hb_3, hF⟩ := gb_e hF
  cases hF
  rw [hQ]
  exact gq_iret hC (gb_n hb_3) dX11_isSlot_15
theorem hy_X11_takesSlot : yX11_takesSlot.cls = RX11 ∧ yX11_takesSlot.cls ≠ "java/lang/invoke/MethodHandle" ∧ yX11_takesSlot.cls ≠ "java/lang/invoke/VarHandle" ∧ (parseMethodDescriptor yX11_takesSlot.desc).map (fun d => d.parameters.length) = some 1 := by decide +kernel
set_option maxRecDepth 20000 in
set_option maxHeartbeats 4000000 in
theorem k_X11_takesSlot (l : Launch) (D : va_G) (cI cJ cZ cO : ClassId) (z : Nat → Nat)   (h_t_ : Nat) (h_a : Nat) (h_fresh : Nat) (h_kept : Nat) (h_buffer : Nat) (h_worthFrom : Nat) (h_cutsFrom : Nat) (h_endFrom : Nat) (h_changes : Nat) (h_waysFrom : Nat) (h_costAt : Nat) (h_places : Nat) (h_isCut : Nat) (h_written : Nat) (x1 : Int32) (v_keptMany : Int32) (v_thrown : Int32) (v_buffered : Int32) (v_size : Int32) (v_at : Int32) (v_behind : Int32) (v_kind : Int32) (v_wrong : Int32) (v_wrongAt : Int32) (v_errorAt : Int32) (v_number : Int64) (v_toCut : Int32) (v_toLeave : Int32) (v_writtenMany : Int32) (v_a : Nat → Int64) (w_a : Nat → Int64) (hF : F_X11_takesSlot x1 v_a = some w_a) : Mv l yX11_takesSlot wsX11_takesSlot (rmD 0) D (gq_ty cI cJ cZ cO) z [.ref h_t_, .int x1] [(h_t_, .inr (11, [.ref h_a, .ref h_fresh, .ref h_kept, .int v_keptMany, .int v_thrown, .ref h_buffer, .int v_buffered, .int v_size, .int v_at, .int v_behind, .int v_kind, .int v_wrong, .int v_wrongAt, .int v_errorAt, .long v_number, .ref h_worthFrom, .ref h_cutsFrom, .ref h_endFrom, .ref h_changes, .ref h_waysFrom, .int v_toCut, .int v_toLeave, .ref h_costAt, .ref h_places, .ref h_isCut, .ref h_written, .int v_writtenMany])), (h_a, .inl (cJ, 499, .inr (.inl v_a)))] [(h_t_, .inr (11, [.ref h_a, .ref h_fresh, .ref h_kept, .int v_keptMany, .int v_thrown, .ref h_buffer, .int v_buffered, .int v_size, .int v_at, .int v_behind, .int v_kind, .int v_wrong, .int v_wrongAt, .int v_errorAt, .long v_number, .ref h_worthFrom, .ref h_cutsFrom, .ref h_endFrom, .ref h_changes, .ref h_waysFrom, .int v_toCut, .int v_toLeave, .ref h_costAt, .ref h_places, .ref h_isCut, .ref h_written, .int v_writtenMany])), (h_a, .inl (cJ, 499, .inr (.inl w_a)))] 0 0 := by
  refine Mv.of (cc := cX11_takesSlot) (maxL := 4) (by decide) rfl (Nat.le_of_ble_eq_true rfl) ⟨Nat.le_refl 0, Nat.le_refl 0⟩ ?_
  intro p e s m args below meth c A hC ha
  have hin_X11 : ∀ w ∈ wsX110, w ∈ wsX11_takesSlot := by decide +kernel
  have hw_9 : Cond.fieldLink RX11 9 (TX11 0).1 (TX11 0).2.1 (TX11 0).2.2.1 ∈ wsX11_takesSlot := by decide +kernel
  obtain ⟨Q, hQ⟩ : ∃ Q, Q = gq_Qv below D A args s [(h_t_, .inr (11, [.ref h_a, .ref h_fresh, .ref h_kept, .int v_keptMany, .int v_thrown, .ref h_buffer, .int v_buffered, .int v_size, .int v_at, .int v_behind, .int v_kind, .int v_wrong, .int v_wrongAt, .int v_errorAt, .long v_number, .ref h_worthFrom, .ref h_cutsFrom, .ref h_endFrom, .ref h_changes, .ref h_waysFrom, .int v_toCut, .int v_toLeave, .ref h_costAt, .ref h_places, .ref h_isCut, .ref h_written, .int v_writtenMany])), (h_a, .inl (cJ, 499, .inr (.inl w_a)))] 0 0 := ⟨_, rfl⟩
  rw [← hQ]
  refine gq_loc [(0, .ref h_t_), (1, .int x1)] rfl ?_
  unfold F_X11_takesSlot at hF
  refine gq_aload_n hC 0 dX11_takesSlot_0 rfl rfl ?_
  refine gq_get hC (kf := 0) 0 hin_X11 rfl rfl (by decide) hw_9 rfl dX11_takesSlot_1 ?_
  refine gq_bipush hC (8 : Int32) dX11_takesSlot_4 (by decide) ?_
  obtain ⟨hi_1, hF⟩ := gi_e hF
  refine gq_lald hC 1 1 rfl rfl hi_1 dX11_takesSlot_6 ?_
  refine gq_l2i hC dX11_takesSlot_7 ?_
  refine gq_iconst hC (1 : Int32) dX11_takesSlot_8 (by decide) ?_
  refine gq_isub hC dX11_takesSlot_9 ?_
  refine gq_istore_n hC [(2, .int (((v_a (8 : Int32).toNatClampNeg).toInt32) - (1 : Int32))), (0, .ref h_t_), (1, .int x1)] dX11_takesSlot_10 rfl (by decide) rfl ?_
  refine gq_sipush hC (394 : Int32) dX11_takesSlot_11 (by decide) ?_
  refine gq_iconst hC (3 : Int32) dX11_takesSlot_14 (by decide) ?_
  refine gq_iload_n hC 2 dX11_takesSlot_15 rfl rfl ?_
  refine gq_imul hC dX11_takesSlot_16 ?_
  refine gq_iadd hC dX11_takesSlot_17 ?_
  refine gq_istore_n hC [(3, .int ((394 : Int32) + ((3 : Int32) * x1))), (2, .int (((v_a (8 : Int32).toNatClampNeg).toInt32) - (1 : Int32))), (0, .ref h_t_), (1, .int x1)] dX11_takesSlot_18 rfl (by decide) rfl ?_
  have lp19 : ∀ (l2_2 : Int32), ∀ (e_8 : (Nat → Int64)), Gx p l e (rmD 0) s m args below meth c D A 4 Q 0 0 50 [(0, .ref h_t_), (2, .int l2_2)] [] [(h_t_, .inr (11, [.ref h_a, .ref h_fresh, .ref h_kept, .int v_keptMany, .int v_thrown, .ref h_buffer, .int v_buffered, .int v_size, .int v_at, .int v_behind, .int v_kind, .int v_wrong, .int v_wrongAt, .int v_errorAt, .long v_number, .ref h_worthFrom, .ref h_cutsFrom, .ref h_endFrom, .ref h_changes, .ref h_waysFrom, .int v_toCut, .int v_toLeave, .ref h_costAt, .ref h_places, .ref h_isCut, .ref h_written, .int v_writtenMany])), (h_a, .inl (cJ, 499, .inr (.inl e_8)))] → ∀ (N : Nat) (l3_3 : Int32) (v_a_4 : Nat → Int64), wh (fun k q => S_X11_takesSlot_19 l2_2 k q.1 q.2) N (l3_3, v_a_4) = some e_8 → Gx p l e (rmD 0) s m args below meth c D A 4 Q 0 0 19 [(0, .ref h_t_), (2, .int l2_2), (3, .int l3_3)] [] [(h_t_, .inr (11, [.ref h_a, .ref h_fresh, .ref h_kept, .int v_keptMany, .int v_thrown, .ref h_buffer, .int v_buffered, .int v_size, .int v_at, .int v_behind, .int v_kind, .int v_wrong, .int v_wrongAt, .int v_errorAt, .long v_number, .ref h_worthFrom, .ref h_cutsFrom, .ref h_endFrom, .ref h_changes, .ref h_waysFrom, .int v_toCut, .int v_toLeave, .ref h_costAt, .ref h_places, .ref h_isCut, .ref h_written, .int v_writtenMany])), (h_a, .inl (cJ, 499, .inr (.inl v_a_4)))] := by
    intro l2_2 e_8 hx0 N
    induction N with
    | zero => intro l3_3 v_a_4 hw; exact absurd hw (wh_0 _ _ _)
    | succ N ih =>
      intro l3_3 v_a_4 hw
      have hF : S_X11_takesSlot_19 l2_2 (wh (fun k q => S_X11_takesSlot_19 l2_2 k q.1 q.2) N) l3_3 v_a_4 = some e_8 := hw
      unfold S_X11_takesSlot_19 at hF
      refine gq_iload_n hC 2 dX11_takesSlot_19 rfl rfl ?_
      refine gq_sipush hC (394 : Int32) dX11_takesSlot_20 (by decide) ?_
      refine gq_iconst hC (3 : Int32) dX11_takesSlot_23 (by decide) ?_
      refine gq_iload_n hC 1 dX11_takesSlot_24 rfl rfl ?_
      refine gq_imul hC dX11_takesSlot_25 ?_
      refine gq_iadd hC dX11_takesSlot_26 ?_
      refine gq_icmp_ge hC 50 dX11_takesSlot_27 (by decide) (fun hc_7 => ?_) (fun hc_7 => ?_)
      · have hF := (if_pos hc_7).symm.trans hF
        refine gq_sub [(0, .ref h_t_), (2, .int l2_2)] [0, 1] rfl ?_
        cases hF
        exact hx0
      · have hF := (if_neg hc_7).symm.trans hF
        refine gq_aload_n hC 0 dX11_takesSlot_30 rfl rfl ?_
        refine gq_get hC (kf := 0) 0 hin_X11 rfl rfl (by decide) hw_9 rfl dX11_takesSlot_31 ?_
        refine gq_iload_n hC 2 dX11_takesSlot_34 rfl rfl ?_
        refine gq_aload_n hC 0 dX11_takesSlot_35 rfl rfl ?_
        refine gq_get hC (kf := 0) 0 hin_X11 rfl rfl (by decide) hw_9 rfl dX11_takesSlot_36 ?_
        refine gq_iload_n hC 2 dX11_takesSlot_39 rfl rfl ?_
        refine gq_iconst hC (3 : Int32) dX11_takesSlot_40 (by decide) ?_
        refine gq_iadd hC dX11_takesSlot_41 ?_
        obtain ⟨hi_5, hF⟩ := gi_e hF
        refine gq_lald hC 1 1 rfl rfl hi_5 dX11_takesSlot_42 ?_
        obtain ⟨hi_6, hF⟩ := gi_e hF
        refine gq_last hC 1 1 [(h_t_, .inr (11, [.ref h_a, .ref h_fresh, .ref h_kept, .int v_keptMany, .int v_thrown, .ref h_buffer, .int v_buffered, .int v_size, .int v_at, .int v_behind, .int v_kind, .int v_wrong, .int v_wrongAt, .int v_errorAt, .long v_number, .ref h_worthFrom, .ref h_cutsFrom, .ref h_endFrom, .ref h_changes, .ref h_waysFrom, .int v_toCut, .int v_toLeave, .ref h_costAt, .ref h_places, .ref h_isCut, .ref h_written, .int v_writtenMany])), (h_a, .inl (cJ, 499, .inr (.inl (vp_updL v_a_4 l3_3.toNatClampNeg (v_a_4 (l3_3 + (3 : Int32)).toNatClampNeg)))))] rfl rfl hi_6 dX11_takesSlot_43 rfl ?_
        refine gq_iinc hC 2 (l3_3 + (1 : Int32)) [(3, .int (l3_3 + (1 : Int32))), (0, .ref h_t_), (2, .int l2_2)] dX11_takesSlot_44 rfl rfl (by decide) rfl ?_
        refine gq_goto hC 19 dX11_takesSlot_47 (by decide) ?_
        refine gq_sub [(0, .ref h_t_), (2, .int l2_2), (3, .int (l3_3 + (1 : Int32)))] [1, 2, 0] rfl ?_
        exact ih (l3_3 + (1 : Int32)) (vp_updL v_a_4 l3_3.toNatClampNeg (v_a_4 (l3_3 + (3 : Int32)).toNatClampNeg)) hF
  refine gq_sub [(0, .ref h_t_), (2, .int (((v_a (8 : Int32).toNatClampNeg).toInt32) - (1 : Int32))), (3, .int ((394 : Int32) + ((3 : Int32) * x1)))] [2, 1, 0] rfl ?_
  obtain ⟨e_9, hw_, hF⟩ := ob1_e hF
  refine lp19 (((v_a (8 : Int32).toNatClampNeg).toInt32) - (1 : Int32)) e_9 ?_ wF ((394 : Int32) + ((3 : Int32) * x1)) v_a hw_
  refine gq_sipush hC (394 : Int32) dX11_takesSlot_50 (by decide) ?_
  refine gq_iconst hC (3 : Int32) dX11_takesSlot_53 (by decide) ?_
  refine gq_iload_n hC 1 dX11_takesSlot_54 rfl rfl ?_
  refine gq_imul hC dX11_takesSlot_55 ?_
  refine gq_iadd hC dX11_takesSlot_56 ?_
  refine gq_istore_n hC [(3, .int ((394 : Int32) + ((3 : Int32) * (((v_a (8 : Int32).toNatClampNeg).toInt32) - (1 : Int32))))), (0, .ref h_t_), (2, .int (((v_a (8 : Int32).toNatClampNeg).toInt32) - (1 : Int32)))] dX11_takesSlot_57 rfl (by decide) rfl ?_
  have lp58 : ∀ (l2_10 : Int32), ∀ (e_15 : (Nat → Int64)), Gx p l e (rmD 0) s m args below meth c D A 4 Q 0 0 84 [(0, .ref h_t_), (2, .int l2_10)] [] [(h_t_, .inr (11, [.ref h_a, .ref h_fresh, .ref h_kept, .int v_keptMany, .int v_thrown, .ref h_buffer, .int v_buffered, .int v_size, .int v_at, .int v_behind, .int v_kind, .int v_wrong, .int v_wrongAt, .int v_errorAt, .long v_number, .ref h_worthFrom, .ref h_cutsFrom, .ref h_endFrom, .ref h_changes, .ref h_waysFrom, .int v_toCut, .int v_toLeave, .ref h_costAt, .ref h_places, .ref h_isCut, .ref h_written, .int v_writtenMany])), (h_a, .inl (cJ, 499, .inr (.inl e_15)))] → ∀ (N : Nat) (l3_11 : Int32) (v_a_12 : Nat → Int64), wh (fun k q => S_X11_takesSlot_58 l2_10 k q.1 q.2) N (l3_11, v_a_12) = some e_15 → Gx p l e (rmD 0) s m args below meth c D A 4 Q 0 0 58 [(0, .ref h_t_), (2, .int l2_10), (3, .int l3_11)] [] [(h_t_, .inr (11, [.ref h_a, .ref h_fresh, .ref h_kept, .int v_keptMany, .int v_thrown, .ref h_buffer, .int v_buffered, .int v_size, .int v_at, .int v_behind, .int v_kind, .int v_wrong, .int v_wrongAt, .int v_errorAt, .long v_number, .ref h_worthFrom, .ref h_cutsFrom, .ref h_endFrom, .ref h_changes, .ref h_waysFrom, .int v_toCut, .int v_toLeave, .ref h_costAt, .ref h_places, .ref h_isCut, .ref h_written, .int v_writtenMany])), (h_a, .inl (cJ, 499, .inr (.inl v_a_12)))] := by
    intro l2_10 e_15 hx0 N
    induction N with
    | zero => intro l3_11 v_a_12 hw; exact absurd hw (wh_0 _ _ _)
    | succ N ih =>
      intro l3_11 v_a_12 hw
      have hF : S_X11_takesSlot_58 l2_10 (wh (fun k q => S_X11_takesSlot_58 l2_10 k q.1 q.2) N) l3_11 v_a_12 = some e_15 := hw
      unfold S_X11_takesSlot_58 at hF
      refine gq_iload_n hC 2 dX11_takesSlot_58 rfl rfl ?_
      refine gq_sipush hC (394 : Int32) dX11_takesSlot_59 (by decide) ?_
      refine gq_iconst hC (3 : Int32) dX11_takesSlot_62 (by decide) ?_
      refine gq_iload_n hC 1 dX11_takesSlot_63 rfl rfl ?_
      refine gq_imul hC dX11_takesSlot_64 ?_
      refine gq_iadd hC dX11_takesSlot_65 ?_
      refine gq_iconst hC (3 : Int32) dX11_takesSlot_66 (by decide) ?_
      refine gq_iadd hC dX11_takesSlot_67 ?_
      refine gq_icmp_ge hC 84 dX11_takesSlot_68 (by decide) (fun hc_14 => ?_) (fun hc_14 => ?_)
      · have hF := (if_pos hc_14).symm.trans hF
        refine gq_sub [(0, .ref h_t_), (2, .int l2_10)] [0, 1] rfl ?_
        cases hF
        exact hx0
      · have hF := (if_neg hc_14).symm.trans hF
        refine gq_aload_n hC 0 dX11_takesSlot_71 rfl rfl ?_
        refine gq_get hC (kf := 0) 0 hin_X11 rfl rfl (by decide) hw_9 rfl dX11_takesSlot_72 ?_
        refine gq_iload_n hC 2 dX11_takesSlot_75 rfl rfl ?_
        refine gq_lconst hC (0 : Int64) dX11_takesSlot_76 (by decide) ?_
        obtain ⟨hi_13, hF⟩ := gi_e hF
        refine gq_last hC 1 1 [(h_t_, .inr (11, [.ref h_a, .ref h_fresh, .ref h_kept, .int v_keptMany, .int v_thrown, .ref h_buffer, .int v_buffered, .int v_size, .int v_at, .int v_behind, .int v_kind, .int v_wrong, .int v_wrongAt, .int v_errorAt, .long v_number, .ref h_worthFrom, .ref h_cutsFrom, .ref h_endFrom, .ref h_changes, .ref h_waysFrom, .int v_toCut, .int v_toLeave, .ref h_costAt, .ref h_places, .ref h_isCut, .ref h_written, .int v_writtenMany])), (h_a, .inl (cJ, 499, .inr (.inl (vp_updL v_a_12 l3_11.toNatClampNeg (0 : Int64)))))] rfl rfl hi_13 dX11_takesSlot_77 rfl ?_
        refine gq_iinc hC 2 (l3_11 + (1 : Int32)) [(3, .int (l3_11 + (1 : Int32))), (0, .ref h_t_), (2, .int l2_10)] dX11_takesSlot_78 rfl rfl (by decide) rfl ?_
        refine gq_goto hC 58 dX11_takesSlot_81 (by decide) ?_
        refine gq_sub [(0, .ref h_t_), (2, .int l2_10), (3, .int (l3_11 + (1 : Int32)))] [1, 2, 0] rfl ?_
        exact ih (l3_11 + (1 : Int32)) (vp_updL v_a_12 l3_11.toNatClampNeg (0 : Int64)) hF
  refine gq_sub [(0, .ref h_t_), (2, .int (((v_a (8 : Int32).toNatClampNeg).toInt32) - (1 : Int32))), (3, .int ((394 : Int32) + ((3 : Int32) * (((v_a (8 : Int32).toNatClampNeg).toInt32) - (1 : Int32)))))] [1, 2, 0] rfl ?_
  obtain ⟨e_16, hw_, hF⟩ := ob1_e hF
  refine lp58 (((v_a (8 : Int32).toNatClampNeg).toInt32) - (1 : Int32)) e_16 ?_ wF ((394 : Int32) + ((3 : Int32) * (((v_a (8 : Int32).toNatClampNeg).toInt32) - (1 : Int32)))) e_9 hw_
  refine gq_aload_n hC 0 dX11_takesSlot_84 rfl rfl ?_
  refine gq_get hC (kf := 0) 0 hin_X11 rfl rfl (by decide) hw_9 rfl dX11_takesSlot_85 ?_
  refine gq_bipush hC (8 : Int32) dX11_takesSlot_88 (by decide) ?_
  refine gq_iload_n hC 1 dX11_takesSlot_90 rfl rfl ?_
  refine gq_i2l hC dX11_takesSlot_91 ?_
  obtain ⟨hi_17, hF⟩ := gi_e hF
  refine gq_last hC 1 1 [(h_t_, .inr (11, [.ref h_a, .ref h_fresh, .ref h_kept, .int v_keptMany, .int v_thrown, .ref h_buffer, .int v_buffered, .int v_size, .int v_at, .int v_behind, .int v_kind, .int v_wrong, .int v_wrongAt, .int v_errorAt, .long v_number, .ref h_worthFrom, .ref h_cutsFrom, .ref h_endFrom, .ref h_changes, .ref h_waysFrom, .int v_toCut, .int v_toLeave, .ref h_costAt, .ref h_places, .ref h_isCut, .ref h_written, .int v_writtenMany])), (h_a, .inl (cJ, 499, .inr (.inl (vp_updL e_16 (8 : Int32).toNatClampNeg ((((v_a (8 : Int32).toNatClampNeg).toInt32) - (1 : Int32)).toInt64)))))] rfl rfl hi_17 dX11_takesSlot_92 rfl ?_
  cases hF
  rw [hQ]
  exact gq_vret hC dX11_takesSlot_93
theorem hy_X11_removeSlot : yX11_removeSlot.cls = RX11 ∧ yX11_removeSlot.cls ≠ "java/lang/invoke/MethodHandle" ∧ yX11_removeSlot.cls ≠ "java/lang/invoke/VarHandle" ∧ (parseMethodDescriptor yX11_removeSlot.desc).map (fun d => d.parameters.length) = some 1 := by decide +kernel
set_option maxRecDepth 20000 in
set_option maxHeartbeats 4000000 in
theorem k_X11_removeSlot (l : Launch) (D : va_G) (cI cJ cZ cO : ClassId) (z : Nat → Nat)   (h_t_ : Nat) (h_a : Nat) (h_kept : Nat) (h_fresh : Nat) (h_buffer : Nat) (h_worthFrom : Nat) (h_cutsFrom : Nat) (h_endFrom : Nat) (h_changes : Nat) (h_waysFrom : Nat) (h_costAt : Nat) (h_places : Nat) (h_isCut : Nat) (h_written : Nat) (x1 : Int32) (v_keptMany : Int32) (v_thrown : Int32) (v_buffered : Int32) (v_size : Int32) (v_at : Int32) (v_behind : Int32) (v_kind : Int32) (v_wrong : Int32) (v_wrongAt : Int32) (v_errorAt : Int32) (v_number : Int64) (v_toCut : Int32) (v_toLeave : Int32) (v_writtenMany : Int32) (v_a : Nat → Int64) (v_kept : Nat → Int64) (r_ : Int32) (w_keptMany : Int32) (w_thrown : Int32) (w_a : Nat → Int64) (w_kept : Nat → Int64) (hF : F_X11_removeSlot x1 v_keptMany v_thrown v_a v_kept = some (r_, w_keptMany, w_thrown, w_a, w_kept)) : Mi l yX11_removeSlot wsX11_removeSlot (rmD 2) D (gq_ty cI cJ cZ cO) z [.ref h_t_, .int x1] [(h_t_, .inr (11, [.ref h_a, .ref h_fresh, .ref h_kept, .int v_keptMany, .int v_thrown, .ref h_buffer, .int v_buffered, .int v_size, .int v_at, .int v_behind, .int v_kind, .int v_wrong, .int v_wrongAt, .int v_errorAt, .long v_number, .ref h_worthFrom, .ref h_cutsFrom, .ref h_endFrom, .ref h_changes, .ref h_waysFrom, .int v_toCut, .int v_toLeave, .ref h_costAt, .ref h_places, .ref h_isCut, .ref h_written, .int v_writtenMany])), (h_a, .inl (cJ, 499, .inr (.inl v_a))), (h_kept, .inl (cJ, 3992, .inr (.inl v_kept)))] r_ [(h_t_, .inr (11, [.ref h_a, .ref h_fresh, .ref h_kept, .int w_keptMany, .int w_thrown, .ref h_buffer, .int v_buffered, .int v_size, .int v_at, .int v_behind, .int v_kind, .int v_wrong, .int v_wrongAt, .int v_errorAt, .long v_number, .ref h_worthFrom, .ref h_cutsFrom, .ref h_endFrom, .ref h_changes, .ref h_waysFrom, .int v_toCut, .int v_toLeave, .ref h_costAt, .ref h_places, .ref h_isCut, .ref h_written, .int v_writtenMany])), (h_a, .inl (cJ, 499, .inr (.inl w_a))), (h_kept, .inl (cJ, 3992, .inr (.inl w_kept)))] 0 0 := by
  refine Mi.of (cc := cX11_removeSlot) (maxL := 2) (by decide) rfl (Nat.le_of_ble_eq_true rfl) ⟨Nat.le_refl 0, Nat.le_refl 0⟩ ?_
  intro p e s m args below meth c A hC ha
  have hin_X11 : ∀ w ∈ wsX110, w ∈ wsX11_removeSlot := by decide +kernel
  have hw_9 : Cond.fieldLink RX11 9 (TX11 0).1 (TX11 0).2.1 (TX11 0).2.2.1 ∈ wsX11_removeSlot := by decide +kernel
  have hw_79 : Cond.fieldLink RX11 79 (TX11 4).1 (TX11 4).2.1 (TX11 4).2.2.1 ∈ wsX11_removeSlot := by decide +kernel
  obtain ⟨Q, hQ⟩ : ∃ Q, Q = gq_Qi below D A args s r_ [(h_t_, .inr (11, [.ref h_a, .ref h_fresh, .ref h_kept, .int w_keptMany, .int w_thrown, .ref h_buffer, .int v_buffered, .int v_size, .int v_at, .int v_behind, .int v_kind, .int v_wrong, .int v_wrongAt, .int v_errorAt, .long v_number, .ref h_worthFrom, .ref h_cutsFrom, .ref h_endFrom, .ref h_changes, .ref h_waysFrom, .int v_toCut, .int v_toLeave, .ref h_costAt, .ref h_places, .ref h_isCut, .ref h_written, .int v_writtenMany])), (h_a, .inl (cJ, 499, .inr (.inl w_a))), (h_kept, .inl (cJ, 3992, .inr (.inl w_kept)))] 0 0 := ⟨_, rfl⟩
  rw [← hQ]
  refine gq_loc [(0, .ref h_t_), (1, .int x1)] rfl ?_
  have jb14 : ∀ (st_1 : Int32) (v_keptMany_2 : Int32) (v_thrown_3 : Int32) (v_a_4 : Nat → Int64) (v_kept_5 : Nat → Int64), F_X11_removeSlot_b14 x1 st_1 v_keptMany_2 v_thrown_3 v_a_4 v_kept_5 = some (r_, w_keptMany, w_thrown, w_a, w_kept) → Gx p l e (rmD 2) s m args below meth c D A 2 Q 0 0 14 [(0, .ref h_t_), (1, .int x1)] [.int st_1, .ref h_t_] [(h_t_, .inr (11, [.ref h_a, .ref h_fresh, .ref h_kept, .int v_keptMany_2, .int v_thrown_3, .ref h_buffer, .int v_buffered, .int v_size, .int v_at, .int v_behind, .int v_kind, .int v_wrong, .int v_wrongAt, .int v_errorAt, .long v_number, .ref h_worthFrom, .ref h_cutsFrom, .ref h_endFrom, .ref h_changes, .ref h_waysFrom, .int v_toCut, .int v_toLeave, .ref h_costAt, .ref h_places, .ref h_isCut, .ref h_written, .int v_writtenMany])), (h_a, .inl (cJ, 499, .inr (.inl v_a_4))), (h_kept, .inl (cJ, 3992, .inr (.inl v_kept_5)))] := by
    intro st_1 v_keptMany_2 v_thrown_3 v_a_4 v_kept_5 hF
    unfold F_X11_removeSlot_b14 at hF
    refine gq_put1 hC (kf := 4) 0 [(h_t_, .inr (11, [.ref h_a, .ref h_fresh, .ref h_kept, .int v_keptMany_2, .int st_1, .ref h_buffer, .int v_buffered, .int v_size, .int v_at, .int v_behind, .int v_kind, .int v_wrong, .int v_wrongAt, .int v_errorAt, .long v_number, .ref h_worthFrom, .ref h_cutsFrom, .ref h_endFrom, .ref h_changes, .ref h_waysFrom, .int v_toCut, .int v_toLeave, .ref h_costAt, .ref h_places, .ref h_isCut, .ref h_written, .int v_writtenMany])), (h_a, .inl (cJ, 499, .inr (.inl v_a_4))), (h_kept, .inl (cJ, 3992, .inr (.inl v_kept_5)))] tyX11 tyX11_ok nmX11 hin_X11 rfl rfl (by decide) hw_79 rfl rfl rfl (Nat.le_of_ble_eq_true rfl) dX11_removeSlot_14 rfl ?_
    refine gq_aload_n hC 0 dX11_removeSlot_17 rfl rfl ?_
    refine gq_get hC (kf := 4) 0 hin_X11 rfl rfl (by decide) hw_79 rfl dX11_removeSlot_18 ?_
    refine gq_if_le hC 26 dX11_removeSlot_21 (by decide) (fun hc_10 => ?_) (fun hc_10 => ?_)
    · have hF := (if_pos hc_10).symm.trans hF
      refine gq_aload_n hC 0 dX11_removeSlot_26 rfl rfl ?_
      obtain ⟨v_keptMany_6, v_kept_7, hc_, hF⟩ := ob2_e hF
      refine gq_callVv hC [0, 1, 2] [(h_t_, .inr (11, [.ref h_a, .ref h_fresh, .ref h_kept, .int v_keptMany_6, .int st_1, .ref h_buffer, .int v_buffered, .int v_size, .int v_at, .int v_behind, .int v_kind, .int v_wrong, .int v_wrongAt, .int v_errorAt, .long v_number, .ref h_worthFrom, .ref h_cutsFrom, .ref h_endFrom, .ref h_changes, .ref h_waysFrom, .int v_toCut, .int v_toLeave, .ref h_costAt, .ref h_places, .ref h_isCut, .ref h_written, .int v_writtenMany])), (h_a, .inl (cJ, 499, .inr (.inl v_a_4))), (h_kept, .inl (cJ, 3992, .inr (.inl v_kept_7)))] [] [] (k_X11_keeps l D cI cJ cZ cO z h_t_ h_a h_kept h_fresh h_buffer h_worthFrom h_cutsFrom h_endFrom h_changes h_waysFrom h_costAt h_places h_isCut h_written v_keptMany_2 st_1 v_buffered v_size v_at v_behind v_kind v_wrong v_wrongAt v_errorAt v_number v_toCut v_toLeave v_writtenMany v_a_4 v_kept_5 v_keptMany_6 v_kept_7 hc_) gX11_removeSlot_X11_keeps rfl ⟨rfl, rfl⟩ hy_X11_keeps ⟨Nat.le_of_ble_eq_true rfl, Nat.le_of_ble_eq_true rfl⟩ rfl rfl rfl (q0 := 0) rfl rfl rfl (Nat.le_of_ble_eq_true rfl) rfl dX11_removeSlot_27 rfl rfl ?_
      refine gq_aload_n hC 0 dX11_removeSlot_30 rfl rfl ?_
      refine gq_iload_n hC 1 dX11_removeSlot_31 rfl rfl ?_
      obtain ⟨v_a_8, hc_, hF⟩ := ob1_e hF
      refine gq_callVv hC [0, 1] [(h_t_, .inr (11, [.ref h_a, .ref h_fresh, .ref h_kept, .int v_keptMany_6, .int st_1, .ref h_buffer, .int v_buffered, .int v_size, .int v_at, .int v_behind, .int v_kind, .int v_wrong, .int v_wrongAt, .int v_errorAt, .long v_number, .ref h_worthFrom, .ref h_cutsFrom, .ref h_endFrom, .ref h_changes, .ref h_waysFrom, .int v_toCut, .int v_toLeave, .ref h_costAt, .ref h_places, .ref h_isCut, .ref h_written, .int v_writtenMany])), (h_a, .inl (cJ, 499, .inr (.inl v_a_8))), (h_kept, .inl (cJ, 3992, .inr (.inl v_kept_7)))] [.int x1] [] (k_X11_takesSlot l D cI cJ cZ cO z h_t_ h_a h_fresh h_kept h_buffer h_worthFrom h_cutsFrom h_endFrom h_changes h_waysFrom h_costAt h_places h_isCut h_written x1 v_keptMany_6 st_1 v_buffered v_size v_at v_behind v_kind v_wrong v_wrongAt v_errorAt v_number v_toCut v_toLeave v_writtenMany v_a_4 v_a_8 hc_) gX11_removeSlot_X11_takesSlot rfl ⟨rfl, rfl⟩ hy_X11_takesSlot ⟨Nat.le_of_ble_eq_true rfl, Nat.le_of_ble_eq_true rfl⟩ rfl rfl rfl (q0 := 0) rfl rfl rfl (Nat.le_of_ble_eq_true rfl) rfl dX11_removeSlot_32 rfl rfl ?_
      refine gq_aload_n hC 0 dX11_removeSlot_35 rfl rfl ?_
      refine gq_get hC (kf := 0) 0 hin_X11 rfl rfl (by decide) hw_9 rfl dX11_removeSlot_36 ?_
      refine gq_bipush hC (8 : Int32) dX11_removeSlot_39 (by decide) ?_
      obtain ⟨hi_9, hF⟩ := gi_e hF
      refine gq_lald hC 1 1 rfl rfl hi_9 dX11_removeSlot_41 ?_
      refine gq_l2i hC dX11_removeSlot_42 ?_
      cases hF
      rw [hQ]
      exact gq_iret hC rfl dX11_removeSlot_43
    · have hF := (if_neg hc_10).symm.trans hF
      refine gq_iconst hC (0 : Int32) dX11_removeSlot_24 (by decide) ?_
      cases hF
      rw [hQ]
      exact gq_iret hC rfl dX11_removeSlot_25
  unfold F_X11_removeSlot at hF
  refine gq_aload_n hC 0 dX11_removeSlot_0 rfl rfl ?_
  refine gq_aload_n hC 0 dX11_removeSlot_1 rfl rfl ?_
  refine gq_iload_n hC 1 dX11_removeSlot_2 rfl rfl ?_
  obtain ⟨r_11, hc_, hF⟩ := ob1_e hF
  refine gq_callVi hC [0, 1] [(h_t_, .inr (11, [.ref h_a, .ref h_fresh, .ref h_kept, .int v_keptMany, .int v_thrown, .ref h_buffer, .int v_buffered, .int v_size, .int v_at, .int v_behind, .int v_kind, .int v_wrong, .int v_wrongAt, .int v_errorAt, .long v_number, .ref h_worthFrom, .ref h_cutsFrom, .ref h_endFrom, .ref h_changes, .ref h_waysFrom, .int v_toCut, .int v_toLeave, .ref h_costAt, .ref h_places, .ref h_isCut, .ref h_written, .int v_writtenMany])), (h_a, .inl (cJ, 499, .inr (.inl v_a))), (h_kept, .inl (cJ, 3992, .inr (.inl v_kept)))] [.int x1] [.ref h_t_] (k_X11_isSlot l D cI cJ cZ cO z h_t_ h_a h_fresh h_kept h_buffer h_worthFrom h_cutsFrom h_endFrom h_changes h_waysFrom h_costAt h_places h_isCut h_written x1 v_keptMany v_thrown v_buffered v_size v_at v_behind v_kind v_wrong v_wrongAt v_errorAt v_number v_toCut v_toLeave v_writtenMany v_a r_11 hc_) gX11_removeSlot_X11_isSlot rfl ⟨rfl, rfl⟩ hy_X11_isSlot ⟨Nat.le_of_ble_eq_true rfl, Nat.le_of_ble_eq_true rfl⟩ rfl rfl rfl (q0 := 0) rfl rfl rfl (Nat.le_of_ble_eq_true rfl) rfl dX11_removeSlot_3 rfl rfl ?_
  refine gq_if_eq hC 13 dX11_removeSlot_6 (by decide) (fun hc_12 => ?_) (fun hc_12 => ?_)
  · have hF := (if_pos hc_12).symm.trans hF
    refine gq_iconst hC (1 : Int32) dX11_removeSlot_13 (by decide) ?_
    exact jb14 (1 : Int32) v_keptMany v_thrown v_a v_kept hF
  · have hF := (if_neg hc_12).symm.trans hF
    refine gq_iconst hC (0 : Int32) dX11_removeSlot_9 (by decide) ?_
    refine gq_goto hC 14 dX11_removeSlot_10 (by decide) ?_
    exact jb14 (0 : Int32) v_keptMany v_thrown v_a v_kept hF
theorem hy_X11_moveSlot : yX11_moveSlot.cls = RX11 ∧ yX11_moveSlot.cls ≠ "java/lang/invoke/MethodHandle" ∧ yX11_moveSlot.cls ≠ "java/lang/invoke/VarHandle" ∧ (parseMethodDescriptor yX11_moveSlot.desc).map (fun d => d.parameters.length) = some 2 := by decide +kernel
set_option maxRecDepth 20000 in
set_option maxHeartbeats 4000000 in
theorem k_X11_moveSlot (l : Launch) (D : va_G) (cI cJ cZ cO : ClassId) (z : Nat → Nat)   (h_t_ : Nat) (h_a : Nat) (h_kept : Nat) (h_fresh : Nat) (h_buffer : Nat) (h_worthFrom : Nat) (h_cutsFrom : Nat) (h_endFrom : Nat) (h_changes : Nat) (h_waysFrom : Nat) (h_costAt : Nat) (h_places : Nat) (h_isCut : Nat) (h_written : Nat) (x1 : Int32) (x2 : Int32) (v_keptMany : Int32) (v_thrown : Int32) (v_buffered : Int32) (v_size : Int32) (v_at : Int32) (v_behind : Int32) (v_kind : Int32) (v_wrong : Int32) (v_wrongAt : Int32) (v_errorAt : Int32) (v_number : Int64) (v_toCut : Int32) (v_toLeave : Int32) (v_writtenMany : Int32) (v_a : Nat → Int64) (v_kept : Nat → Int64) (r_ : Int32) (w_keptMany : Int32) (w_thrown : Int32) (w_a : Nat → Int64) (w_kept : Nat → Int64) (hF : F_X11_moveSlot x1 x2 v_keptMany v_thrown v_a v_kept = some (r_, w_keptMany, w_thrown, w_a, w_kept)) : Mi l yX11_moveSlot wsX11_moveSlot (rmD 2) D (gq_ty cI cJ cZ cO) z [.ref h_t_, .int x1, .int x2] [(h_t_, .inr (11, [.ref h_a, .ref h_fresh, .ref h_kept, .int v_keptMany, .int v_thrown, .ref h_buffer, .int v_buffered, .int v_size, .int v_at, .int v_behind, .int v_kind, .int v_wrong, .int v_wrongAt, .int v_errorAt, .long v_number, .ref h_worthFrom, .ref h_cutsFrom, .ref h_endFrom, .ref h_changes, .ref h_waysFrom, .int v_toCut, .int v_toLeave, .ref h_costAt, .ref h_places, .ref h_isCut, .ref h_written, .int v_writtenMany])), (h_a, .inl (cJ, 499, .inr (.inl v_a))), (h_kept, .inl (cJ, 3992, .inr (.inl v_kept)))] r_ [(h_t_, .inr (11, [.ref h_a, .ref h_fresh, .ref h_kept, .int w_keptMany, .int w_thrown, .ref h_buffer, .int v_buffered, .int v_size, .int v_at, .int v_behind, .int v_kind, .int v_wrong, .int v_wrongAt, .int v_errorAt, .long v_number, .ref h_worthFrom, .ref h_cutsFrom, .ref h_endFrom, .ref h_changes, .ref h_waysFrom, .int v_toCut, .int v_toLeave, .ref h_costAt, .ref h_places, .ref h_isCut, .ref h_written, .int v_writtenMany])), (h_a, .inl (cJ, 499, .inr (.inl w_a))), (h_kept, .inl (cJ, 3992, .inr (.inl w_kept)))] 0 0 := by
  refine Mi.of (cc := cX11_moveSlot) (maxL := 5) (by decide) rfl (Nat.le_of_ble_eq_true rfl) ⟨Nat.le_refl 0, Nat.le_refl 0⟩ ?_
  intro p e s m args below meth c A hC ha
  have hin_X11 : ∀ w ∈ wsX110, w ∈ wsX11_moveSlot := by decide +kernel
  have hw_9 : Cond.fieldLink RX11 9 (TX11 0).1 (TX11 0).2.1 (TX11 0).2.2.1 ∈ wsX11_moveSlot := by decide +kernel
  have hw_79 : Cond.fieldLink RX11 79 (TX11 4).1 (TX11 4).2.1 (TX11 4).2.2.1 ∈ wsX11_moveSlot := by decide +kernel
  obtain ⟨Q, hQ⟩ : ∃ Q, Q = gq_Qi below D A args s r_ [(h_t_, .inr (11, [.ref h_a, .ref h_fresh, .ref h_kept, .int w_keptMany, .int w_thrown, .ref h_buffer, .int v_buffered, .int v_size, .int v_at, .int v_behind, .int v_kind, .int v_wrong, .int v_wrongAt, .int v_errorAt, .long v_number, .ref h_worthFrom, .ref h_cutsFrom, .ref h_endFrom, .ref h_changes, .ref h_waysFrom, .int v_toCut, .int v_toLeave, .ref h_costAt, .ref h_places, .ref h_isCut, .ref h_written, .int v_writtenMany])), (h_a, .inl (cJ, 499, .inr (.inl w_a))), (h_kept, .inl (cJ, 3992, .inr (.inl w_kept)))] 0 0 := ⟨_, rfl⟩
  rw [← hQ]
  refine gq_loc [(0, .ref h_t_), (1, .int x1), (2, .int x2)] rfl ?_
  have jb30 : ∀ (st_1 : Int32) (v_keptMany_2 : Int32) (v_thrown_3 : Int32) (v_a_4 : Nat → Int64) (v_kept_5 : Nat → Int64), F_X11_moveSlot_b30 x1 x2 st_1 v_keptMany_2 v_thrown_3 v_a_4 v_kept_5 = some (r_, w_keptMany, w_thrown, w_a, w_kept) → Gx p l e (rmD 2) s m args below meth c D A 5 Q 0 0 30 [(0, .ref h_t_), (1, .int x1), (2, .int x2)] [.int st_1, .ref h_t_] [(h_t_, .inr (11, [.ref h_a, .ref h_fresh, .ref h_kept, .int v_keptMany_2, .int v_thrown_3, .ref h_buffer, .int v_buffered, .int v_size, .int v_at, .int v_behind, .int v_kind, .int v_wrong, .int v_wrongAt, .int v_errorAt, .long v_number, .ref h_worthFrom, .ref h_cutsFrom, .ref h_endFrom, .ref h_changes, .ref h_waysFrom, .int v_toCut, .int v_toLeave, .ref h_costAt, .ref h_places, .ref h_isCut, .ref h_written, .int v_writtenMany])), (h_a, .inl (cJ, 499, .inr (.inl v_a_4))), (h_kept, .inl (cJ, 3992, .inr (.inl v_kept_5)))] := by
    intro st_1 v_keptMany_2 v_thrown_3 v_a_4 v_kept_5 hF
    unfold F_X11_moveSlot_b30 at hF
    refine gq_put1 hC (kf := 4) 0 [(h_t_, .inr (11, [.ref h_a, .ref h_fresh, .ref h_kept, .int v_keptMany_2, .int st_1, .ref h_buffer, .int v_buffered, .int v_size, .int v_at, .int v_behind, .int v_kind, .int v_wrong, .int v_wrongAt, .int v_errorAt, .long v_number, .ref h_worthFrom, .ref h_cutsFrom, .ref h_endFrom, .ref h_changes, .ref h_waysFrom, .int v_toCut, .int v_toLeave, .ref h_costAt, .ref h_places, .ref h_isCut, .ref h_written, .int v_writtenMany])), (h_a, .inl (cJ, 499, .inr (.inl v_a_4))), (h_kept, .inl (cJ, 3992, .inr (.inl v_kept_5)))] tyX11 tyX11_ok nmX11 hin_X11 rfl rfl (by decide) hw_79 rfl rfl rfl (Nat.le_of_ble_eq_true rfl) dX11_moveSlot_30 rfl ?_
    refine gq_aload_n hC 0 dX11_moveSlot_33 rfl rfl ?_
    refine gq_get hC (kf := 4) 0 hin_X11 rfl rfl (by decide) hw_79 rfl dX11_moveSlot_34 ?_
    refine gq_if_le hC 42 dX11_moveSlot_37 (by decide) (fun hc_13 => ?_) (fun hc_13 => ?_)
    · have hF := (if_pos hc_13).symm.trans hF
      refine gq_aload_n hC 0 dX11_moveSlot_42 rfl rfl ?_
      obtain ⟨v_keptMany_6, v_kept_7, hc_, hF⟩ := ob2_e hF
      refine gq_callVv hC [0, 1, 2] [(h_t_, .inr (11, [.ref h_a, .ref h_fresh, .ref h_kept, .int v_keptMany_6, .int st_1, .ref h_buffer, .int v_buffered, .int v_size, .int v_at, .int v_behind, .int v_kind, .int v_wrong, .int v_wrongAt, .int v_errorAt, .long v_number, .ref h_worthFrom, .ref h_cutsFrom, .ref h_endFrom, .ref h_changes, .ref h_waysFrom, .int v_toCut, .int v_toLeave, .ref h_costAt, .ref h_places, .ref h_isCut, .ref h_written, .int v_writtenMany])), (h_a, .inl (cJ, 499, .inr (.inl v_a_4))), (h_kept, .inl (cJ, 3992, .inr (.inl v_kept_7)))] [] [] (k_X11_keeps l D cI cJ cZ cO z h_t_ h_a h_kept h_fresh h_buffer h_worthFrom h_cutsFrom h_endFrom h_changes h_waysFrom h_costAt h_places h_isCut h_written v_keptMany_2 st_1 v_buffered v_size v_at v_behind v_kind v_wrong v_wrongAt v_errorAt v_number v_toCut v_toLeave v_writtenMany v_a_4 v_kept_5 v_keptMany_6 v_kept_7 hc_) gX11_moveSlot_X11_keeps rfl ⟨rfl, rfl⟩ hy_X11_keeps ⟨Nat.le_of_ble_eq_true rfl, Nat.le_of_ble_eq_true rfl⟩ rfl rfl rfl (q0 := 0) rfl rfl rfl (Nat.le_of_ble_eq_true rfl) rfl dX11_moveSlot_43 rfl rfl ?_
      refine gq_aload_n hC 0 dX11_moveSlot_46 rfl rfl ?_
      refine gq_iload_n hC 1 dX11_moveSlot_47 rfl rfl ?_
      refine gq_iconst hC (1 : Int32) dX11_moveSlot_48 (by decide) ?_
      obtain ⟨r_8, hc_, hF⟩ := ob1_e hF
      refine gq_callVi hC [0, 1] [(h_t_, .inr (11, [.ref h_a, .ref h_fresh, .ref h_kept, .int v_keptMany_6, .int st_1, .ref h_buffer, .int v_buffered, .int v_size, .int v_at, .int v_behind, .int v_kind, .int v_wrong, .int v_wrongAt, .int v_errorAt, .long v_number, .ref h_worthFrom, .ref h_cutsFrom, .ref h_endFrom, .ref h_changes, .ref h_waysFrom, .int v_toCut, .int v_toLeave, .ref h_costAt, .ref h_places, .ref h_isCut, .ref h_written, .int v_writtenMany])), (h_a, .inl (cJ, 499, .inr (.inl v_a_4))), (h_kept, .inl (cJ, 3992, .inr (.inl v_kept_7)))] [.int x1, .int (1 : Int32)] [] (k_X11_ofSlot l D cI cJ cZ cO z h_t_ h_a h_fresh h_kept h_buffer h_worthFrom h_cutsFrom h_endFrom h_changes h_waysFrom h_costAt h_places h_isCut h_written x1 (1 : Int32) v_keptMany_6 st_1 v_buffered v_size v_at v_behind v_kind v_wrong v_wrongAt v_errorAt v_number v_toCut v_toLeave v_writtenMany v_a_4 r_8 hc_) gX11_moveSlot_X11_ofSlot rfl ⟨rfl, rfl⟩ hy_X11_ofSlot ⟨Nat.le_of_ble_eq_true rfl, Nat.le_of_ble_eq_true rfl⟩ rfl rfl rfl (q0 := 0) rfl rfl rfl (Nat.le_of_ble_eq_true rfl) rfl dX11_moveSlot_49 rfl rfl ?_
      refine gq_istore_n hC [(3, .int r_8), (0, .ref h_t_), (1, .int x1), (2, .int x2)] dX11_moveSlot_52 rfl (by decide) rfl ?_
      refine gq_aload_n hC 1 dX11_moveSlot_53 rfl rfl ?_
      refine gq_iload_n hC 2 dX11_moveSlot_54 rfl rfl ?_
      refine gq_iconst hC (2 : Int32) dX11_moveSlot_55 (by decide) ?_
      obtain ⟨r_9, hc_, hF⟩ := ob1_e hF
      refine gq_callVi hC [0, 1] [(h_t_, .inr (11, [.ref h_a, .ref h_fresh, .ref h_kept, .int v_keptMany_6, .int st_1, .ref h_buffer, .int v_buffered, .int v_size, .int v_at, .int v_behind, .int v_kind, .int v_wrong, .int v_wrongAt, .int v_errorAt, .long v_number, .ref h_worthFrom, .ref h_cutsFrom, .ref h_endFrom, .ref h_changes, .ref h_waysFrom, .int v_toCut, .int v_toLeave, .ref h_costAt, .ref h_places, .ref h_isCut, .ref h_written, .int v_writtenMany])), (h_a, .inl (cJ, 499, .inr (.inl v_a_4))), (h_kept, .inl (cJ, 3992, .inr (.inl v_kept_7)))] [.int x1, .int (2 : Int32)] [] (k_X11_ofSlot l D cI cJ cZ cO z h_t_ h_a h_fresh h_kept h_buffer h_worthFrom h_cutsFrom h_endFrom h_changes h_waysFrom h_costAt h_places h_isCut h_written x1 (2 : Int32) v_keptMany_6 st_1 v_buffered v_size v_at v_behind v_kind v_wrong v_wrongAt v_errorAt v_number v_toCut v_toLeave v_writtenMany v_a_4 r_9 hc_) gX11_moveSlot_X11_ofSlot rfl ⟨rfl, rfl⟩ hy_X11_ofSlot ⟨Nat.le_of_ble_eq_true rfl, Nat.le_of_ble_eq_true rfl⟩ rfl rfl rfl (q0 := 0) rfl rfl rfl (Nat.le_of_ble_eq_true rfl) rfl dX11_moveSlot_56 rfl rfl ?_
      refine gq_istore hC [(4, .int r_9), (3, .int r_8), (0, .ref h_t_), (1, .int x1), (2, .int x2)] dX11_moveSlot_59 (by decide) rfl ?_
      refine gq_aload_n hC 2 dX11_moveSlot_61 rfl rfl ?_
      refine gq_iload_n hC 3 dX11_moveSlot_62 rfl rfl ?_
      obtain ⟨v_a_10, hc_, hF⟩ := ob1_e hF
      refine gq_callVv hC [0, 1] [(h_t_, .inr (11, [.ref h_a, .ref h_fresh, .ref h_kept, .int v_keptMany_6, .int st_1, .ref h_buffer, .int v_buffered, .int v_size, .int v_at, .int v_behind, .int v_kind, .int v_wrong, .int v_wrongAt, .int v_errorAt, .long v_number, .ref h_worthFrom, .ref h_cutsFrom, .ref h_endFrom, .ref h_changes, .ref h_waysFrom, .int v_toCut, .int v_toLeave, .ref h_costAt, .ref h_places, .ref h_isCut, .ref h_written, .int v_writtenMany])), (h_a, .inl (cJ, 499, .inr (.inl v_a_10))), (h_kept, .inl (cJ, 3992, .inr (.inl v_kept_7)))] [.int x1] [] (k_X11_takesSlot l D cI cJ cZ cO z h_t_ h_a h_fresh h_kept h_buffer h_worthFrom h_cutsFrom h_endFrom h_changes h_waysFrom h_costAt h_places h_isCut h_written x1 v_keptMany_6 st_1 v_buffered v_size v_at v_behind v_kind v_wrong v_wrongAt v_errorAt v_number v_toCut v_toLeave v_writtenMany v_a_4 v_a_10 hc_) gX11_moveSlot_X11_takesSlot rfl ⟨rfl, rfl⟩ hy_X11_takesSlot ⟨Nat.le_of_ble_eq_true rfl, Nat.le_of_ble_eq_true rfl⟩ rfl rfl rfl (q0 := 0) rfl rfl rfl (Nat.le_of_ble_eq_true rfl) rfl dX11_moveSlot_63 rfl rfl ?_
      refine gq_aload_n hC 2 dX11_moveSlot_66 rfl rfl ?_
      refine gq_get hC (kf := 0) 0 hin_X11 rfl rfl (by decide) hw_9 rfl dX11_moveSlot_67 ?_
      refine gq_iload_n hC 4 dX11_moveSlot_70 rfl rfl ?_
      refine gq_iload_n hC 1 dX11_moveSlot_71 rfl rfl ?_
      refine gq_iload hC 0 dX11_moveSlot_72 rfl ?_
      obtain ⟨r_11, v_a_12, hc_, hF⟩ := ob2_e hF
      refine gq_callSi hC [1] [(h_t_, .inr (11, [.ref h_a, .ref h_fresh, .ref h_kept, .int v_keptMany_6, .int st_1, .ref h_buffer, .int v_buffered, .int v_size, .int v_at, .int v_behind, .int v_kind, .int v_wrong, .int v_wrongAt, .int v_errorAt, .long v_number, .ref h_worthFrom, .ref h_cutsFrom, .ref h_endFrom, .ref h_changes, .ref h_waysFrom, .int v_toCut, .int v_toLeave, .ref h_costAt, .ref h_places, .ref h_isCut, .ref h_written, .int v_writtenMany])), (h_a, .inl (cJ, 499, .inr (.inl v_a_12))), (h_kept, .inl (cJ, 3992, .inr (.inl v_kept_7)))] [.ref h_a, .int x2, .int r_8, .int r_9] [] (k_X11_putsSlot l D cI cJ cZ cO z 499 h_a x2 r_8 r_9 v_a_10 r_11 v_a_12 hc_) gX11_moveSlot_X11_putsSlot rfl ⟨rfl, rfl⟩ hy_X11_putsSlot rfl ⟨Nat.le_of_ble_eq_true rfl, Nat.le_of_ble_eq_true rfl⟩ rfl rfl rfl (Nat.le_of_ble_eq_true rfl) rfl dX11_moveSlot_74 rfl rfl ?_
      cases hF
      rw [hQ]
      exact gq_iret hC rfl dX11_moveSlot_77
    · have hF := (if_neg hc_13).symm.trans hF
      refine gq_iconst hC (0 : Int32) dX11_moveSlot_40 (by decide) ?_
      cases hF
      rw [hQ]
      exact gq_iret hC rfl dX11_moveSlot_41
  unfold F_X11_moveSlot at hF
  refine gq_aload_n hC 0 dX11_moveSlot_0 rfl rfl ?_
  refine gq_aload_n hC 0 dX11_moveSlot_1 rfl rfl ?_
  refine gq_iload_n hC 1 dX11_moveSlot_2 rfl rfl ?_
  obtain ⟨r_14, hc_, hF⟩ := ob1_e hF
  refine gq_callVi hC [0, 1] [(h_t_, .inr (11, [.ref h_a, .ref h_fresh, .ref h_kept, .int v_keptMany, .int v_thrown, .ref h_buffer, .int v_buffered, .int v_size, .int v_at, .int v_behind, .int v_kind, .int v_wrong, .int v_wrongAt, .int v_errorAt, .long v_number, .ref h_worthFrom, .ref h_cutsFrom, .ref h_endFrom, .ref h_changes, .ref h_waysFrom, .int v_toCut, .int v_toLeave, .ref h_costAt, .ref h_places, .ref h_isCut, .ref h_written, .int v_writtenMany])), (h_a, .inl (cJ, 499, .inr (.inl v_a))), (h_kept, .inl (cJ, 3992, .inr (.inl v_kept)))] [.int x1] [.ref h_t_] (k_X11_isSlot l D cI cJ cZ cO z h_t_ h_a h_fresh h_kept h_buffer h_worthFrom h_cutsFrom h_endFrom h_changes h_waysFrom h_costAt h_places h_isCut h_written x1 v_keptMany v_thrown v_buffered v_size v_at v_behind v_kind v_wrong v_wrongAt v_errorAt v_number v_toCut v_toLeave v_writtenMany v_a r_14 hc_) gX11_moveSlot_X11_isSlot rfl ⟨rfl, rfl⟩ hy_X11_isSlot ⟨Nat.le_of_ble_eq_true rfl, Nat.le_of_ble_eq_true rfl⟩ rfl rfl rfl (q0 := 0) rfl rfl rfl (Nat.le_of_ble_eq_true rfl) rfl dX11_moveSlot_3 rfl rfl ?_
  refine gq_if_ne hC 13 dX11_moveSlot_6 (by decide) (fun hc_17 => ?_) (fun hc_17 => ?_)
  · have hF := (if_neg hc_17).symm.trans hF
    refine gq_iload_n hC 2 dX11_moveSlot_13 rfl rfl ?_
    refine gq_i2l hC dX11_moveSlot_14 ?_
    refine gq_lconst hC (0 : Int64) dX11_moveSlot_15 (by decide) ?_
    refine gq_ldc2 hC (9999 : Int64) dX11_moveSlot_16 (by decide +kernel) ?_
    obtain ⟨r_15, hc_, hF⟩ := ob1_e hF
    refine gq_callSi hC [] [(h_t_, .inr (11, [.ref h_a, .ref h_fresh, .ref h_kept, .int v_keptMany, .int v_thrown, .ref h_buffer, .int v_buffered, .int v_size, .int v_at, .int v_behind, .int v_kind, .int v_wrong, .int v_wrongAt, .int v_errorAt, .long v_number, .ref h_worthFrom, .ref h_cutsFrom, .ref h_endFrom, .ref h_changes, .ref h_waysFrom, .int v_toCut, .int v_toLeave, .ref h_costAt, .ref h_places, .ref h_isCut, .ref h_written, .int v_writtenMany])), (h_a, .inl (cJ, 499, .inr (.inl v_a))), (h_kept, .inl (cJ, 3992, .inr (.inl v_kept)))] [.long (x2.toInt64), .long (0 : Int64), .long (9999 : Int64)] [.ref h_t_] (k_X11_isIn l D cI cJ cZ cO z  (x2.toInt64) (0 : Int64) (9999 : Int64) r_15 hc_) gX11_moveSlot_X11_isIn rfl ⟨rfl, rfl⟩ hy_X11_isIn rfl ⟨Nat.le_of_ble_eq_true rfl, Nat.le_of_ble_eq_true rfl⟩ rfl rfl rfl (Nat.le_of_ble_eq_true rfl) rfl dX11_moveSlot_19 rfl rfl ?_
    refine gq_if_eq hC 29 dX11_moveSlot_22 (by decide) (fun hc_16 => ?_) (fun hc_16 => ?_)
    · have hF := (if_pos hc_16).symm.trans hF
      refine gq_iconst hC (2 : Int32) dX11_moveSlot_29 (by decide) ?_
      exact jb30 (2 : Int32) v_keptMany v_thrown v_a v_kept hF
    · have hF := (if_neg hc_16).symm.trans hF
      refine gq_iconst hC (0 : Int32) dX11_moveSlot_25 (by decide) ?_
      refine gq_goto hC 30 dX11_moveSlot_26 (by decide) ?_
      exact jb30 (0 : Int32) v_keptMany v_thrown v_a v_kept hF
  · have hF := (if_pos hc_17).symm.trans hF
    refine gq_iconst hC (1 : Int32) dX11_moveSlot_9 (by decide) ?_
    refine gq_goto hC 30 dX11_moveSlot_10 (by decide) ?_
    exact jb30 (1 : Int32) v_keptMany v_thrown v_a v_kept hF
theorem hy_X11_slot : yX11_slot.cls = RX11 ∧ yX11_slot.cls ≠ "java/lang/invoke/MethodHandle" ∧ yX11_slot.cls ≠ "java/lang/invoke/VarHandle" ∧ (parseMethodDescriptor yX11_slot.desc).map (fun d => d.parameters.length) = some 2 := by decide +kernel
set_option maxRecDepth 20000 in
set_option maxHeartbeats 4000000 in
theorem k_X11_slot (l : Launch) (D : va_G) (cI cJ cZ cO : ClassId) (z : Nat → Nat)   (h_t_ : Nat) (h_a : Nat) (h_fresh : Nat) (h_kept : Nat) (h_buffer : Nat) (h_worthFrom : Nat) (h_cutsFrom : Nat) (h_endFrom : Nat) (h_changes : Nat) (h_waysFrom : Nat) (h_costAt : Nat) (h_places : Nat) (h_isCut : Nat) (h_written : Nat) (x1 : Int32) (x2 : Int32) (v_keptMany : Int32) (v_thrown : Int32) (v_buffered : Int32) (v_size : Int32) (v_at : Int32) (v_behind : Int32) (v_kind : Int32) (v_wrong : Int32) (v_wrongAt : Int32) (v_errorAt : Int32) (v_number : Int64) (v_toCut : Int32) (v_toLeave : Int32) (v_writtenMany : Int32) (v_a : Nat → Int64) (r_ : Int32) (w_thrown : Int32) (hF : F_X11_slot x1 x2 v_thrown v_a = some (r_, w_thrown)) : Mi l yX11_slot wsX11_slot (rmD 2) D (gq_ty cI cJ cZ cO) z [.ref h_t_, .int x1, .int x2] [(h_t_, .inr (11, [.ref h_a, .ref h_fresh, .ref h_kept, .int v_keptMany, .int v_thrown, .ref h_buffer, .int v_buffered, .int v_size, .int v_at, .int v_behind, .int v_kind, .int v_wrong, .int v_wrongAt, .int v_errorAt, .long v_number, .ref h_worthFrom, .ref h_cutsFrom, .ref h_endFrom, .ref h_changes, .ref h_waysFrom, .int v_toCut, .int v_toLeave, .ref h_costAt, .ref h_places, .ref h_isCut, .ref h_written, .int v_writtenMany])), (h_a, .inl (cJ, 499, .inr (.inl v_a)))] r_ [(h_t_, .inr (11, [.ref h_a, .ref h_fresh, .ref h_kept, .int v_keptMany, .int w_thrown, .ref h_buffer, .int v_buffered, .int v_size, .int v_at, .int v_behind, .int v_kind, .int v_wrong, .int v_wrongAt, .int v_errorAt, .long v_number, .ref h_worthFrom, .ref h_cutsFrom, .ref h_endFrom, .ref h_changes, .ref h_waysFrom, .int v_toCut, .int v_toLeave, .ref h_costAt, .ref h_places, .ref h_isCut, .ref h_written, .int v_writtenMany])), (h_a, .inl (cJ, 499, .inr (.inl v_a)))] 0 0 := by
  refine Mi.of (cc := cX11_slot) (maxL := 3) (by decide) rfl (Nat.le_of_ble_eq_true rfl) ⟨Nat.le_refl 0, Nat.le_refl 0⟩ ?_
  intro p e s m args below meth c A hC ha
  have hin_X11 : ∀ w ∈ wsX110, w ∈ wsX11_slot := by decide +kernel
  have hw_79 : Cond.fieldLink RX11 79 (TX11 4).1 (TX11 4).2.1 (TX11 4).2.2.1 ∈ wsX11_slot := by decide +kernel
  obtain ⟨Q, hQ⟩ : ∃ Q, Q = gq_Qi below D A args s r_ [(h_t_, .inr (11, [.ref h_a, .ref h_fresh, .ref h_kept, .int v_keptMany, .int w_thrown, .ref h_buffer, .int v_buffered, .int v_size, .int v_at, .int v_behind, .int v_kind, .int v_wrong, .int v_wrongAt, .int v_errorAt, .long v_number, .ref h_worthFrom, .ref h_cutsFrom, .ref h_endFrom, .ref h_changes, .ref h_waysFrom, .int v_toCut, .int v_toLeave, .ref h_costAt, .ref h_places, .ref h_isCut, .ref h_written, .int v_writtenMany])), (h_a, .inl (cJ, 499, .inr (.inl v_a)))] 0 0 := ⟨_, rfl⟩
  rw [← hQ]
  refine gq_loc [(0, .ref h_t_), (1, .int x1), (2, .int x2)] rfl ?_
  have jb30 : ∀ (st_1 : Int32) (v_thrown_2 : Int32), F_X11_slot_b30 x1 x2 st_1 v_thrown_2 v_a = some (r_, w_thrown) → Gx p l e (rmD 2) s m args below meth c D A 3 Q 0 0 30 [(0, .ref h_t_), (1, .int x1), (2, .int x2)] [.int st_1, .ref h_t_] [(h_t_, .inr (11, [.ref h_a, .ref h_fresh, .ref h_kept, .int v_keptMany, .int v_thrown_2, .ref h_buffer, .int v_buffered, .int v_size, .int v_at, .int v_behind, .int v_kind, .int v_wrong, .int v_wrongAt, .int v_errorAt, .long v_number, .ref h_worthFrom, .ref h_cutsFrom, .ref h_endFrom, .ref h_changes, .ref h_waysFrom, .int v_toCut, .int v_toLeave, .ref h_costAt, .ref h_places, .ref h_isCut, .ref h_written, .int v_writtenMany])), (h_a, .inl (cJ, 499, .inr (.inl v_a)))] := by
    intro st_1 v_thrown_2 hF
    unfold F_X11_slot_b30 at hF
    refine gq_put1 hC (kf := 4) 0 [(h_t_, .inr (11, [.ref h_a, .ref h_fresh, .ref h_kept, .int v_keptMany, .int st_1, .ref h_buffer, .int v_buffered, .int v_size, .int v_at, .int v_behind, .int v_kind, .int v_wrong, .int v_wrongAt, .int v_errorAt, .long v_number, .ref h_worthFrom, .ref h_cutsFrom, .ref h_endFrom, .ref h_changes, .ref h_waysFrom, .int v_toCut, .int v_toLeave, .ref h_costAt, .ref h_places, .ref h_isCut, .ref h_written, .int v_writtenMany])), (h_a, .inl (cJ, 499, .inr (.inl v_a)))] tyX11 tyX11_ok nmX11 hin_X11 rfl rfl (by decide) hw_79 rfl rfl rfl (Nat.le_of_ble_eq_true rfl) dX11_slot_30 rfl ?_
    refine gq_aload_n hC 0 dX11_slot_33 rfl rfl ?_
    refine gq_get hC (kf := 4) 0 hin_X11 rfl rfl (by decide) hw_79 rfl dX11_slot_34 ?_
    refine gq_if_le hC 44 dX11_slot_37 (by decide) (fun hc_4 => ?_) (fun hc_4 => ?_)
    · have hF := (if_pos hc_4).symm.trans hF
      refine gq_aload_n hC 0 dX11_slot_44 rfl rfl ?_
      refine gq_iload_n hC 1 dX11_slot_45 rfl rfl ?_
      refine gq_iload_n hC 2 dX11_slot_46 rfl rfl ?_
      obtain ⟨r_3, hc_, hF⟩ := ob1_e hF
      refine gq_callVi hC [0, 1] [(h_t_, .inr (11, [.ref h_a, .ref h_fresh, .ref h_kept, .int v_keptMany, .int st_1, .ref h_buffer, .int v_buffered, .int v_size, .int v_at, .int v_behind, .int v_kind, .int v_wrong, .int v_wrongAt, .int v_errorAt, .long v_number, .ref h_worthFrom, .ref h_cutsFrom, .ref h_endFrom, .ref h_changes, .ref h_waysFrom, .int v_toCut, .int v_toLeave, .ref h_costAt, .ref h_places, .ref h_isCut, .ref h_written, .int v_writtenMany])), (h_a, .inl (cJ, 499, .inr (.inl v_a)))] [.int x1, .int x2] [] (k_X11_ofSlot l D cI cJ cZ cO z h_t_ h_a h_fresh h_kept h_buffer h_worthFrom h_cutsFrom h_endFrom h_changes h_waysFrom h_costAt h_places h_isCut h_written x1 x2 v_keptMany st_1 v_buffered v_size v_at v_behind v_kind v_wrong v_wrongAt v_errorAt v_number v_toCut v_toLeave v_writtenMany v_a r_3 hc_) gX11_slot_X11_ofSlot rfl ⟨rfl, rfl⟩ hy_X11_ofSlot ⟨Nat.le_of_ble_eq_true rfl, Nat.le_of_ble_eq_true rfl⟩ rfl rfl rfl (q0 := 0) rfl rfl rfl (Nat.le_of_ble_eq_true rfl) rfl dX11_slot_47 rfl rfl ?_
      cases hF
      rw [hQ]
      exact gq_iret hC rfl dX11_slot_50
    · have hF := (if_neg hc_4).symm.trans hF
      refine gq_iconst hC (0 : Int32) dX11_slot_40 (by decide) ?_
      refine gq_goto hC 50 dX11_slot_41 (by decide) ?_
      cases hF
      rw [hQ]
      exact gq_iret hC rfl dX11_slot_50
  unfold F_X11_slot at hF
  refine gq_aload_n hC 0 dX11_slot_0 rfl rfl ?_
  refine gq_aload_n hC 0 dX11_slot_1 rfl rfl ?_
  refine gq_iload_n hC 1 dX11_slot_2 rfl rfl ?_
  obtain ⟨r_5, hc_, hF⟩ := ob1_e hF
  refine gq_callVi hC [0, 1] [(h_t_, .inr (11, [.ref h_a, .ref h_fresh, .ref h_kept, .int v_keptMany, .int v_thrown, .ref h_buffer, .int v_buffered, .int v_size, .int v_at, .int v_behind, .int v_kind, .int v_wrong, .int v_wrongAt, .int v_errorAt, .long v_number, .ref h_worthFrom, .ref h_cutsFrom, .ref h_endFrom, .ref h_changes, .ref h_waysFrom, .int v_toCut, .int v_toLeave, .ref h_costAt, .ref h_places, .ref h_isCut, .ref h_written, .int v_writtenMany])), (h_a, .inl (cJ, 499, .inr (.inl v_a)))] [.int x1] [.ref h_t_] (k_X11_isSlot l D cI cJ cZ cO z h_t_ h_a h_fresh h_kept h_buffer h_worthFrom h_cutsFrom h_endFrom h_changes h_waysFrom h_costAt h_places h_isCut h_written x1 v_keptMany v_thrown v_buffered v_size v_at v_behind v_kind v_wrong v_wrongAt v_errorAt v_number v_toCut v_toLeave v_writtenMany v_a r_5 hc_) gX11_slot_X11_isSlot rfl ⟨rfl, rfl⟩ hy_X11_isSlot ⟨Nat.le_of_ble_eq_true rfl, Nat.le_of_ble_eq_true rfl⟩ rfl rfl rfl (q0 := 0) rfl rfl rfl (Nat.le_of_ble_eq_true rfl) rfl dX11_slot_3 rfl rfl ?_
  refine gq_if_ne hC 13 dX11_slot_6 (by decide) (fun hc_8 => ?_) (fun hc_8 => ?_)
  · have hF := (if_neg hc_8).symm.trans hF
    refine gq_iload_n hC 2 dX11_slot_13 rfl rfl ?_
    refine gq_i2l hC dX11_slot_14 ?_
    refine gq_lconst hC (0 : Int64) dX11_slot_15 (by decide) ?_
    refine gq_ldc2 hC (2 : Int64) dX11_slot_16 (by decide +kernel) ?_
    obtain ⟨r_6, hc_, hF⟩ := ob1_e hF
    refine gq_callSi hC [] [(h_t_, .inr (11, [.ref h_a, .ref h_fresh, .ref h_kept, .int v_keptMany, .int v_thrown, .ref h_buffer, .int v_buffered, .int v_size, .int v_at, .int v_behind, .int v_kind, .int v_wrong, .int v_wrongAt, .int v_errorAt, .long v_number, .ref h_worthFrom, .ref h_cutsFrom, .ref h_endFrom, .ref h_changes, .ref h_waysFrom, .int v_toCut, .int v_toLeave, .ref h_costAt, .ref h_places, .ref h_isCut, .ref h_written, .int v_writtenMany])), (h_a, .inl (cJ, 499, .inr (.inl v_a)))] [.long (x2.toInt64), .long (0 : Int64), .long (2 : Int64)] [.ref h_t_] (k_X11_isIn l D cI cJ cZ cO z  (x2.toInt64) (0 : Int64) (2 : Int64) r_6 hc_) gX11_slot_X11_isIn rfl ⟨rfl, rfl⟩ hy_X11_isIn rfl ⟨Nat.le_of_ble_eq_true rfl, Nat.le_of_ble_eq_true rfl⟩ rfl rfl rfl (Nat.le_of_ble_eq_true rfl) rfl dX11_slot_19 rfl rfl ?_
    refine gq_if_eq hC 29 dX11_slot_22 (by decide) (fun hc_7 => ?_) (fun hc_7 => ?_)
    · have hF := (if_pos hc_7).symm.trans hF
      refine gq_iconst hC (2 : Int32) dX11_slot_29 (by decide) ?_
      exact jb30 (2 : Int32) v_thrown hF
    · have hF := (if_neg hc_7).symm.trans hF
      refine gq_iconst hC (0 : Int32) dX11_slot_25 (by decide) ?_
      refine gq_goto hC 30 dX11_slot_26 (by decide) ?_
      exact jb30 (0 : Int32) v_thrown hF
  · have hF := (if_pos hc_8).symm.trans hF
    refine gq_iconst hC (1 : Int32) dX11_slot_9 (by decide) ?_
    refine gq_goto hC 30 dX11_slot_10 (by decide) ?_
    exact jb30 (1 : Int32) v_thrown hF
theorem hy_X11_placeOf : yX11_placeOf.cls = RX11 ∧ yX11_placeOf.cls ≠ "java/lang/invoke/MethodHandle" ∧ yX11_placeOf.cls ≠ "java/lang/invoke/VarHandle" ∧ (parseMethodDescriptor yX11_placeOf.desc).map (fun d => d.parameters.length) = some 1 := by decide +kernel
set_option maxRecDepth 20000 in
set_option maxHeartbeats 4000000 in
theorem k_X11_placeOf (l : Launch) (D : va_G) (cI cJ cZ cO : ClassId) (z : Nat → Nat)   (h_t_ : Nat) (h_a : Nat) (h_worthFrom : Nat) (h_cutsFrom : Nat) (h_endFrom : Nat) (h_changes : Nat) (h_waysFrom : Nat) (h_costAt : Nat) (h_places : Nat) (h_isCut : Nat) (h_fresh : Nat) (h_kept : Nat) (h_buffer : Nat) (h_written : Nat) (x1 : Int32) (v_keptMany : Int32) (v_thrown : Int32) (v_buffered : Int32) (v_size : Int32) (v_at : Int32) (v_behind : Int32) (v_kind : Int32) (v_wrong : Int32) (v_wrongAt : Int32) (v_errorAt : Int32) (v_number : Int64) (v_toCut : Int32) (v_toLeave : Int32) (v_writtenMany : Int32) (v_a : Nat → Int64) (v_worthFrom : Nat → Int32) (v_cutsFrom : Nat → Int32) (v_endFrom : Nat → Int32) (v_changes : Nat → Int32) (v_waysFrom : Nat → Int64) (v_costAt : Nat → Int32) (v_places : Nat → Int32) (v_isCut : Nat → Int32) (r_ : Int32) (w_thrown : Int32) (w_worthFrom : Nat → Int32) (w_cutsFrom : Nat → Int32) (w_endFrom : Nat → Int32) (w_changes : Nat → Int32) (w_waysFrom : Nat → Int64) (w_costAt : Nat → Int32) (w_places : Nat → Int32) (w_isCut : Nat → Int32) (hF : F_X11_placeOf x1 v_thrown v_toCut v_toLeave v_a v_worthFrom v_cutsFrom v_endFrom v_changes v_waysFrom v_costAt v_places v_isCut = some (r_, w_thrown, w_worthFrom, w_cutsFrom, w_endFrom, w_changes, w_waysFrom, w_costAt, w_places, w_isCut)) : Mi l yX11_placeOf wsX11_placeOf (rmD 8) D (gq_ty cI cJ cZ cO) z [.ref h_t_, .int x1] [(h_t_, .inr (11, [.ref h_a, .ref h_fresh, .ref h_kept, .int v_keptMany, .int v_thrown, .ref h_buffer, .int v_buffered, .int v_size, .int v_at, .int v_behind, .int v_kind, .int v_wrong, .int v_wrongAt, .int v_errorAt, .long v_number, .ref h_worthFrom, .ref h_cutsFrom, .ref h_endFrom, .ref h_changes, .ref h_waysFrom, .int v_toCut, .int v_toLeave, .ref h_costAt, .ref h_places, .ref h_isCut, .ref h_written, .int v_writtenMany])), (h_a, .inl (cJ, 499, .inr (.inl v_a))), (h_worthFrom, .inl (cI, 33, .inl v_worthFrom)), (h_cutsFrom, .inl (cI, 33, .inl v_cutsFrom)), (h_endFrom, .inl (cI, 33, .inl v_endFrom)), (h_changes, .inl (cI, 32, .inl v_changes)), (h_waysFrom, .inl (cJ, 33, .inr (.inl v_waysFrom))), (h_costAt, .inl (cI, 160, .inl v_costAt)), (h_places, .inl (cI, 5, .inl v_places)), (h_isCut, .inl (cZ, 32, .inl v_isCut))] r_ [(h_t_, .inr (11, [.ref h_a, .ref h_fresh, .ref h_kept, .int v_keptMany, .int w_thrown, .ref h_buffer, .int v_buffered, .int v_size, .int v_at, .int v_behind, .int v_kind, .int v_wrong, .int v_wrongAt, .int v_errorAt, .long v_number, .ref h_worthFrom, .ref h_cutsFrom, .ref h_endFrom, .ref h_changes, .ref h_waysFrom, .int v_toCut, .int v_toLeave, .ref h_costAt, .ref h_places, .ref h_isCut, .ref h_written, .int v_writtenMany])), (h_a, .inl (cJ, 499, .inr (.inl v_a))), (h_worthFrom, .inl (cI, 33, .inl w_worthFrom)), (h_cutsFrom, .inl (cI, 33, .inl w_cutsFrom)), (h_endFrom, .inl (cI, 33, .inl w_endFrom)), (h_changes, .inl (cI, 32, .inl w_changes)), (h_waysFrom, .inl (cJ, 33, .inr (.inl w_waysFrom))), (h_costAt, .inl (cI, 160, .inl w_costAt)), (h_places, .inl (cI, 5, .inl w_places)), (h_isCut, .inl (cZ, 32, .inl w_isCut))] 0 0 := by
  refine Mi.of (cc := cX11_placeOf) (maxL := 2) (by decide) rfl (Nat.le_of_ble_eq_true rfl) ⟨Nat.le_refl 0, Nat.le_refl 0⟩ ?_
  intro p e s m args below meth c A hC ha
  have hin_X11 : ∀ w ∈ wsX110, w ∈ wsX11_placeOf := by decide +kernel
  have hw_51 : Cond.fieldLink RX11 51 (TX11 23).1 (TX11 23).2.1 (TX11 23).2.2.1 ∈ wsX11_placeOf := by decide +kernel
  have hw_79 : Cond.fieldLink RX11 79 (TX11 4).1 (TX11 4).2.1 (TX11 4).2.2.1 ∈ wsX11_placeOf := by decide +kernel
  obtain ⟨Q, hQ⟩ : ∃ Q, Q = gq_Qi below D A args s r_ [(h_t_, .inr (11, [.ref h_a, .ref h_fresh, .ref h_kept, .int v_keptMany, .int w_thrown, .ref h_buffer, .int v_buffered, .int v_size, .int v_at, .int v_behind, .int v_kind, .int v_wrong, .int v_wrongAt, .int v_errorAt, .long v_number, .ref h_worthFrom, .ref h_cutsFrom, .ref h_endFrom, .ref h_changes, .ref h_waysFrom, .int v_toCut, .int v_toLeave, .ref h_costAt, .ref h_places, .ref h_isCut, .ref h_written, .int v_writtenMany])), (h_a, .inl (cJ, 499, .inr (.inl v_a))), (h_worthFrom, .inl (cI, 33, .inl w_worthFrom)), (h_cutsFrom, .inl (cI, 33, .inl w_cutsFrom)), (h_endFrom, .inl (cI, 33, .inl w_endFrom)), (h_changes, .inl (cI, 32, .inl w_changes)), (h_waysFrom, .inl (cJ, 33, .inr (.inl w_waysFrom))), (h_costAt, .inl (cI, 160, .inl w_costAt)), (h_places, .inl (cI, 5, .inl w_places)), (h_isCut, .inl (cZ, 32, .inl w_isCut))] 0 0 := ⟨_, rfl⟩
  rw [← hQ]
  refine gq_loc [(0, .ref h_t_), (1, .int x1)] rfl ?_
  have jb14 : ∀ (st_1 : Int32) (v_thrown_2 : Int32) (v_worthFrom_3 : Nat → Int32) (v_cutsFrom_4 : Nat → Int32) (v_endFrom_5 : Nat → Int32) (v_changes_6 : Nat → Int32) (v_waysFrom_7 : Nat → Int64) (v_costAt_8 : Nat → Int32) (v_places_9 : Nat → Int32) (v_isCut_10 : Nat → Int32), F_X11_placeOf_b14 x1 st_1 v_thrown_2 v_toCut v_toLeave v_a v_worthFrom_3 v_cutsFrom_4 v_endFrom_5 v_changes_6 v_waysFrom_7 v_costAt_8 v_places_9 v_isCut_10 = some (r_, w_thrown, w_worthFrom, w_cutsFrom, w_endFrom, w_changes, w_waysFrom, w_costAt, w_places, w_isCut) → Gx p l e (rmD 8) s m args below meth c D A 2 Q 0 0 14 [(0, .ref h_t_), (1, .int x1)] [.int st_1, .ref h_t_] [(h_t_, .inr (11, [.ref h_a, .ref h_fresh, .ref h_kept, .int v_keptMany, .int v_thrown_2, .ref h_buffer, .int v_buffered, .int v_size, .int v_at, .int v_behind, .int v_kind, .int v_wrong, .int v_wrongAt, .int v_errorAt, .long v_number, .ref h_worthFrom, .ref h_cutsFrom, .ref h_endFrom, .ref h_changes, .ref h_waysFrom, .int v_toCut, .int v_toLeave, .ref h_costAt, .ref h_places, .ref h_isCut, .ref h_written, .int v_writtenMany])), (h_a, .inl (cJ, 499, .inr (.inl v_a))), (h_worthFrom, .inl (cI, 33, .inl v_worthFrom_3)), (h_cutsFrom, .inl (cI, 33, .inl v_cutsFrom_4)), (h_endFrom, .inl (cI, 33, .inl v_endFrom_5)), (h_changes, .inl (cI, 32, .inl v_changes_6)), (h_waysFrom, .inl (cJ, 33, .inr (.inl v_waysFrom_7))), (h_costAt, .inl (cI, 160, .inl v_costAt_8)), (h_places, .inl (cI, 5, .inl v_places_9)), (h_isCut, .inl (cZ, 32, .inl v_isCut_10))] := by
    intro st_1 v_thrown_2 v_worthFrom_3 v_cutsFrom_4 v_endFrom_5 v_changes_6 v_waysFrom_7 v_costAt_8 v_places_9 v_isCut_10 hF
    unfold F_X11_placeOf_b14 at hF
    refine gq_put1 hC (kf := 4) 0 [(h_t_, .inr (11, [.ref h_a, .ref h_fresh, .ref h_kept, .int v_keptMany, .int st_1, .ref h_buffer, .int v_buffered, .int v_size, .int v_at, .int v_behind, .int v_kind, .int v_wrong, .int v_wrongAt, .int v_errorAt, .long v_number, .ref h_worthFrom, .ref h_cutsFrom, .ref h_endFrom, .ref h_changes, .ref h_waysFrom, .int v_toCut, .int v_toLeave, .ref h_costAt, .ref h_places, .ref h_isCut, .ref h_written, .int v_writtenMany])), (h_a, .inl (cJ, 499, .inr (.inl v_a))), (h_worthFrom, .inl (cI, 33, .inl v_worthFrom_3)), (h_cutsFrom, .inl (cI, 33, .inl v_cutsFrom_4)), (h_endFrom, .inl (cI, 33, .inl v_endFrom_5)), (h_changes, .inl (cI, 32, .inl v_changes_6)), (h_waysFrom, .inl (cJ, 33, .inr (.inl v_waysFrom_7))), (h_costAt, .inl (cI, 160, .inl v_costAt_8)), (h_places, .inl (cI, 5, .inl v_places_9)), (h_isCut, .inl (cZ, 32, .inl v_isCut_10))] tyX11 tyX11_ok nmX11 hin_X11 rfl rfl (by decide) hw_79 rfl rfl rfl (Nat.le_of_ble_eq_true rfl) dX11_placeOf_14 rfl ?_
    refine gq_aload_n hC 0 dX11_placeOf_17 rfl rfl ?_
    refine gq_get hC (kf := 4) 0 hin_X11 rfl rfl (by decide) hw_79 rfl dX11_placeOf_18 ?_
    refine gq_if_le hC 26 dX11_placeOf_21 (by decide) (fun hc_22 => ?_) (fun hc_22 => ?_)
    · have hF := (if_pos hc_22).symm.trans hF
      refine gq_aload_n hC 0 dX11_placeOf_26 rfl rfl ?_
      obtain ⟨r_11, v_worthFrom_12, v_cutsFrom_13, v_endFrom_14, v_changes_15, v_waysFrom_16, v_costAt_17, v_places_18, v_isCut_19, hc_, hF⟩ := ob9_e hF
      refine gq_callVi hC [0, 1, 2, 3, 4, 5, 6, 7, 8, 9] [(h_t_, .inr (11, [.ref h_a, .ref h_fresh, .ref h_kept, .int v_keptMany, .int st_1, .ref h_buffer, .int v_buffered, .int v_size, .int v_at, .int v_behind, .int v_kind, .int v_wrong, .int v_wrongAt, .int v_errorAt, .long v_number, .ref h_worthFrom, .ref h_cutsFrom, .ref h_endFrom, .ref h_changes, .ref h_waysFrom, .int v_toCut, .int v_toLeave, .ref h_costAt, .ref h_places, .ref h_isCut, .ref h_written, .int v_writtenMany])), (h_a, .inl (cJ, 499, .inr (.inl v_a))), (h_worthFrom, .inl (cI, 33, .inl v_worthFrom_12)), (h_cutsFrom, .inl (cI, 33, .inl v_cutsFrom_13)), (h_endFrom, .inl (cI, 33, .inl v_endFrom_14)), (h_changes, .inl (cI, 32, .inl v_changes_15)), (h_waysFrom, .inl (cJ, 33, .inr (.inl v_waysFrom_16))), (h_costAt, .inl (cI, 160, .inl v_costAt_17)), (h_places, .inl (cI, 5, .inl v_places_18)), (h_isCut, .inl (cZ, 32, .inl v_isCut_19))] [] [] (k_X11_laysPlaces l D cI cJ cZ cO z h_t_ h_a h_worthFrom h_cutsFrom h_endFrom h_changes h_waysFrom h_costAt h_places h_isCut h_fresh h_kept h_buffer h_written v_keptMany st_1 v_buffered v_size v_at v_behind v_kind v_wrong v_wrongAt v_errorAt v_number v_toCut v_toLeave v_writtenMany v_a v_worthFrom_3 v_cutsFrom_4 v_endFrom_5 v_changes_6 v_waysFrom_7 v_costAt_8 v_places_9 v_isCut_10 r_11 v_worthFrom_12 v_cutsFrom_13 v_endFrom_14 v_changes_15 v_waysFrom_16 v_costAt_17 v_places_18 v_isCut_19 hc_) gX11_placeOf_X11_laysPlaces rfl ⟨rfl, rfl⟩ hy_X11_laysPlaces ⟨Nat.le_of_ble_eq_true rfl, Nat.le_of_ble_eq_true rfl⟩ rfl rfl rfl (q0 := 0) rfl rfl rfl (Nat.le_of_ble_eq_true rfl) rfl dX11_placeOf_27 rfl rfl ?_
      refine gq_iconst hC (-1 : Int32) dX11_placeOf_30 (by decide) ?_
      refine gq_icmp_ne hC 38 dX11_placeOf_31 (by decide) (fun hc_21 => ?_) (fun hc_21 => ?_)
      · have hF := (if_neg hc_21).symm.trans hF
        refine gq_aload_n hC 0 dX11_placeOf_38 rfl rfl ?_
        refine gq_get hC (kf := 23) 0 hin_X11 rfl rfl (by decide) hw_51 rfl dX11_placeOf_39 ?_
        refine gq_iload_n hC 1 dX11_placeOf_42 rfl rfl ?_
        obtain ⟨hi_20, hF⟩ := gi_e hF
        refine gq_iald hC 8 0 rfl rfl hi_20 dX11_placeOf_43 ?_
        cases hF
        rw [hQ]
        exact gq_iret hC rfl dX11_placeOf_44
      · have hF := (if_pos hc_21).symm.trans hF
        refine gq_iconst hC (-1 : Int32) dX11_placeOf_34 (by decide) ?_
        refine gq_goto hC 44 dX11_placeOf_35 (by decide) ?_
        cases hF
        rw [hQ]
        exact gq_iret hC rfl dX11_placeOf_44
    · have hF := (if_neg hc_22).symm.trans hF
      refine gq_iconst hC (0 : Int32) dX11_placeOf_24 (by decide) ?_
      cases hF
      rw [hQ]
      exact gq_iret hC rfl dX11_placeOf_25
  unfold F_X11_placeOf at hF
  refine gq_aload_n hC 0 dX11_placeOf_0 rfl rfl ?_
  refine gq_aload_n hC 0 dX11_placeOf_1 rfl rfl ?_
  refine gq_iload_n hC 1 dX11_placeOf_2 rfl rfl ?_
  obtain ⟨r_23, hc_, hF⟩ := ob1_e hF
  refine gq_callVi hC [0, 1] [(h_t_, .inr (11, [.ref h_a, .ref h_fresh, .ref h_kept, .int v_keptMany, .int v_thrown, .ref h_buffer, .int v_buffered, .int v_size, .int v_at, .int v_behind, .int v_kind, .int v_wrong, .int v_wrongAt, .int v_errorAt, .long v_number, .ref h_worthFrom, .ref h_cutsFrom, .ref h_endFrom, .ref h_changes, .ref h_waysFrom, .int v_toCut, .int v_toLeave, .ref h_costAt, .ref h_places, .ref h_isCut, .ref h_written, .int v_writtenMany])), (h_a, .inl (cJ, 499, .inr (.inl v_a))), (h_worthFrom, .inl (cI, 33, .inl v_worthFrom)), (h_cutsFrom, .inl (cI, 33, .inl v_cutsFrom)), (h_endFrom, .inl (cI, 33, .inl v_endFrom)), (h_changes, .inl (cI, 32, .inl v_changes)), (h_waysFrom, .inl (cJ, 33, .inr (.inl v_waysFrom))), (h_costAt, .inl (cI, 160, .inl v_costAt)), (h_places, .inl (cI, 5, .inl v_places)), (h_isCut, .inl (cZ, 32, .inl v_isCut))] [.int x1] [.ref h_t_] (k_X11_isSlot l D cI cJ cZ cO z h_t_ h_a h_fresh h_kept h_buffer h_worthFrom h_cutsFrom h_endFrom h_changes h_waysFrom h_costAt h_places h_isCut h_written x1 v_keptMany v_thrown v_buffered v_size v_at v_behind v_kind v_wrong v_wrongAt v_errorAt v_number v_toCut v_toLeave v_writtenMany v_a r_23 hc_) gX11_placeOf_X11_isSlot rfl ⟨rfl, rfl⟩ hy_X11_isSlot ⟨Nat.le_of_ble_eq_true rfl, Nat.le_of_ble_eq_true rfl⟩ rfl rfl rfl (q0 := 0) rfl rfl rfl (Nat.le_of_ble_eq_true rfl) rfl dX11_placeOf_3 rfl rfl ?_
  refine gq_if_eq hC 13 dX11_placeOf_6 (by decide) (fun hc_24 => ?_) (fun hc_24 => ?_)
  · have hF := (if_pos hc_24).symm.trans hF
    refine gq_iconst hC (1 : Int32) dX11_placeOf_13 (by decide) ?_
    exact jb14 (1 : Int32) v_thrown v_worthFrom v_cutsFrom v_endFrom v_changes v_waysFrom v_costAt v_places v_isCut hF
  · have hF := (if_neg hc_24).symm.trans hF
    refine gq_iconst hC (0 : Int32) dX11_placeOf_9 (by decide) ?_
    refine gq_goto hC 14 dX11_placeOf_10 (by decide) ?_
    exact jb14 (0 : Int32) v_thrown v_worthFrom v_cutsFrom v_endFrom v_changes v_waysFrom v_costAt v_places v_isCut hF
theorem hy_X11_placementCost : yX11_placementCost.cls = RX11 ∧ yX11_placementCost.cls ≠ "java/lang/invoke/MethodHandle" ∧ yX11_placementCost.cls ≠ "java/lang/invoke/VarHandle" ∧ (parseMethodDescriptor yX11_placementCost.desc).map (fun d => d.parameters.length) = some 0 := by decide +kernel
set_option maxRecDepth 20000 in
set_option maxHeartbeats 4000000 in
theorem k_X11_placementCost (l : Launch) (D : va_G) (cI cJ cZ cO : ClassId) (z : Nat → Nat)   (h_t_ : Nat) (h_a : Nat) (h_worthFrom : Nat) (h_cutsFrom : Nat) (h_endFrom : Nat) (h_changes : Nat) (h_waysFrom : Nat) (h_costAt : Nat) (h_places : Nat) (h_isCut : Nat) (h_fresh : Nat) (h_kept : Nat) (h_buffer : Nat) (h_written : Nat)  (v_keptMany : Int32) (v_thrown : Int32) (v_buffered : Int32) (v_size : Int32) (v_at : Int32) (v_behind : Int32) (v_kind : Int32) (v_wrong : Int32) (v_wrongAt : Int32) (v_errorAt : Int32) (v_number : Int64) (v_toCut : Int32) (v_toLeave : Int32) (v_writtenMany : Int32) (v_a : Nat → Int64) (v_worthFrom : Nat → Int32) (v_cutsFrom : Nat → Int32) (v_endFrom : Nat → Int32) (v_changes : Nat → Int32) (v_waysFrom : Nat → Int64) (v_costAt : Nat → Int32) (v_places : Nat → Int32) (v_isCut : Nat → Int32) (r_ : Int32) (w_thrown : Int32) (w_worthFrom : Nat → Int32) (w_cutsFrom : Nat → Int32) (w_endFrom : Nat → Int32) (w_changes : Nat → Int32) (w_waysFrom : Nat → Int64) (w_costAt : Nat → Int32) (w_places : Nat → Int32) (w_isCut : Nat → Int32) (hF : F_X11_placementCost v_thrown v_toCut v_toLeave v_a v_worthFrom v_cutsFrom v_endFrom v_changes v_waysFrom v_costAt v_places v_isCut = some (r_, w_thrown, w_worthFrom, w_cutsFrom, w_endFrom, w_changes, w_waysFrom, w_costAt, w_places, w_isCut)) : Mi l yX11_placementCost wsX11_placementCost (rmD 8) D (gq_ty cI cJ cZ cO) z [.ref h_t_] [(h_t_, .inr (11, [.ref h_a, .ref h_fresh, .ref h_kept, .int v_keptMany, .int v_thrown, .ref h_buffer, .int v_buffered, .int v_size, .int v_at, .int v_behind, .int v_kind, .int v_wrong, .int v_wrongAt, .int v_errorAt, .long v_number, .ref h_worthFrom, .ref h_cutsFrom, .ref h_endFrom, .ref h_changes, .ref h_waysFrom, .int v_toCut, .int v_toLeave, .ref h_costAt, .ref h_places, .ref h_isCut, .ref h_written, .int v_writtenMany])), (h_a, .inl (cJ, 499, .inr (.inl v_a))), (h_worthFrom, .inl (cI, 33, .inl v_worthFrom)), (h_cutsFrom, .inl (cI, 33, .inl v_cutsFrom)), (h_endFrom, .inl (cI, 33, .inl v_endFrom)), (h_changes, .inl (cI, 32, .inl v_changes)), (h_waysFrom, .inl (cJ, 33, .inr (.inl v_waysFrom))), (h_costAt, .inl (cI, 160, .inl v_costAt)), (h_places, .inl (cI, 5, .inl v_places)), (h_isCut, .inl (cZ, 32, .inl v_isCut))] r_ [(h_t_, .inr (11, [.ref h_a, .ref h_fresh, .ref h_kept, .int v_keptMany, .int w_thrown, .ref h_buffer, .int v_buffered, .int v_size, .int v_at, .int v_behind, .int v_kind, .int v_wrong, .int v_wrongAt, .int v_errorAt, .long v_number, .ref h_worthFrom, .ref h_cutsFrom, .ref h_endFrom, .ref h_changes, .ref h_waysFrom, .int v_toCut, .int v_toLeave, .ref h_costAt, .ref h_places, .ref h_isCut, .ref h_written, .int v_writtenMany])), (h_a, .inl (cJ, 499, .inr (.inl v_a))), (h_worthFrom, .inl (cI, 33, .inl w_worthFrom)), (h_cutsFrom, .inl (cI, 33, .inl w_cutsFrom)), (h_endFrom, .inl (cI, 33, .inl w_endFrom)), (h_changes, .inl (cI, 32, .inl w_changes)), (h_waysFrom, .inl (cJ, 33, .inr (.inl w_waysFrom))), (h_costAt, .inl (cI, 160, .inl w_costAt)), (h_places, .inl (cI, 5, .inl w_places)), (h_isCut, .inl (cZ, 32, .inl w_isCut))] 0 0 := by
  refine Mi.of (cc := cX11_placementCost) (maxL := 1) (by decide) rfl (Nat.le_of_ble_eq_true rfl) ⟨Nat.le_refl 0, Nat.le_refl 0⟩ ?_
  intro p e s m args below meth c A hC ha
  have hin_X11 : ∀ w ∈ wsX110, w ∈ wsX11_placementCost := by decide +kernel
  have hw_79 : Cond.fieldLink RX11 79 (TX11 4).1 (TX11 4).2.1 (TX11 4).2.2.1 ∈ wsX11_placementCost := by decide +kernel
  obtain ⟨Q, hQ⟩ : ∃ Q, Q = gq_Qi below D A args s r_ [(h_t_, .inr (11, [.ref h_a, .ref h_fresh, .ref h_kept, .int v_keptMany, .int w_thrown, .ref h_buffer, .int v_buffered, .int v_size, .int v_at, .int v_behind, .int v_kind, .int v_wrong, .int v_wrongAt, .int v_errorAt, .long v_number, .ref h_worthFrom, .ref h_cutsFrom, .ref h_endFrom, .ref h_changes, .ref h_waysFrom, .int v_toCut, .int v_toLeave, .ref h_costAt, .ref h_places, .ref h_isCut, .ref h_written, .int v_writtenMany])), (h_a, .inl (cJ, 499, .inr (.inl v_a))), (h_worthFrom, .inl (cI, 33, .inl w_worthFrom)), (h_cutsFrom, .inl (cI, 33, .inl w_cutsFrom)), (h_endFrom, .inl (cI, 33, .inl w_endFrom)), (h_changes, .inl (cI, 32, .inl w_changes)), (h_waysFrom, .inl (cJ, 33, .inr (.inl w_waysFrom))), (h_costAt, .inl (cI, 160, .inl w_costAt)), (h_places, .inl (cI, 5, .inl w_places)), (h_isCut, .inl (cZ, 32, .inl w_isCut))] 0 0 := ⟨_, rfl⟩
  rw [← hQ]
  refine gq_loc [(0, .ref h_t_)] rfl ?_
  unfold F_X11_placementCost at hF
  refine gq_aload_n hC 0 dX11_placementCost_0 rfl rfl ?_
  refine gq_iconst hC (0 : Int32) dX11_placementCost_1 (by decide) ?_
  refine gq_put1 hC (kf := 4) 0 [(h_t_, .inr (11, [.ref h_a, .ref h_fresh, .ref h_kept, .int v_keptMany, .int (0 : Int32), .ref h_buffer, .int v_buffered, .int v_size, .int v_at, .int v_behind, .int v_kind, .int v_wrong, .int v_wrongAt, .int v_errorAt, .long v_number, .ref h_worthFrom, .ref h_cutsFrom, .ref h_endFrom, .ref h_changes, .ref h_waysFrom, .int v_toCut, .int v_toLeave, .ref h_costAt, .ref h_places, .ref h_isCut, .ref h_written, .int v_writtenMany])), (h_a, .inl (cJ, 499, .inr (.inl v_a))), (h_worthFrom, .inl (cI, 33, .inl v_worthFrom)), (h_cutsFrom, .inl (cI, 33, .inl v_cutsFrom)), (h_endFrom, .inl (cI, 33, .inl v_endFrom)), (h_changes, .inl (cI, 32, .inl v_changes)), (h_waysFrom, .inl (cJ, 33, .inr (.inl v_waysFrom))), (h_costAt, .inl (cI, 160, .inl v_costAt)), (h_places, .inl (cI, 5, .inl v_places)), (h_isCut, .inl (cZ, 32, .inl v_isCut))] tyX11 tyX11_ok nmX11 hin_X11 rfl rfl (by decide) hw_79 rfl rfl rfl (Nat.le_of_ble_eq_true rfl) dX11_placementCost_2 rfl ?_
  refine gq_aload_n hC 0 dX11_placementCost_5 rfl rfl ?_
  obtain ⟨r_1, v_worthFrom_2, v_cutsFrom_3, v_endFrom_4, v_changes_5, v_waysFrom_6, v_costAt_7, v_places_8, v_isCut_9, hc_, hF⟩ := ob9_e hF
  refine gq_callVi hC [0, 1, 2, 3, 4, 5, 6, 7, 8, 9] [(h_t_, .inr (11, [.ref h_a, .ref h_fresh, .ref h_kept, .int v_keptMany, .int (0 : Int32), .ref h_buffer, .int v_buffered, .int v_size, .int v_at, .int v_behind, .int v_kind, .int v_wrong, .int v_wrongAt, .int v_errorAt, .long v_number, .ref h_worthFrom, .ref h_cutsFrom, .ref h_endFrom, .ref h_changes, .ref h_waysFrom, .int v_toCut, .int v_toLeave, .ref h_costAt, .ref h_places, .ref h_isCut, .ref h_written, .int v_writtenMany])), (h_a, .inl (cJ, 499, .inr (.inl v_a))), (h_worthFrom, .inl (cI, 33, .inl v_worthFrom_2)), (h_cutsFrom, .inl (cI, 33, .inl v_cutsFrom_3)), (h_endFrom, .inl (cI, 33, .inl v_endFrom_4)), (h_changes, .inl (cI, 32, .inl v_changes_5)), (h_waysFrom, .inl (cJ, 33, .inr (.inl v_waysFrom_6))), (h_costAt, .inl (cI, 160, .inl v_costAt_7)), (h_places, .inl (cI, 5, .inl v_places_8)), (h_isCut, .inl (cZ, 32, .inl v_isCut_9))] [] [] (k_X11_laysPlaces l D cI cJ cZ cO z h_t_ h_a h_worthFrom h_cutsFrom h_endFrom h_changes h_waysFrom h_costAt h_places h_isCut h_fresh h_kept h_buffer h_written v_keptMany (0 : Int32) v_buffered v_size v_at v_behind v_kind v_wrong v_wrongAt v_errorAt v_number v_toCut v_toLeave v_writtenMany v_a v_worthFrom v_cutsFrom v_endFrom v_changes v_waysFrom v_costAt v_places v_isCut r_1 v_worthFrom_2 v_cutsFrom_3 v_endFrom_4 v_changes_5 v_waysFrom_6 v_costAt_7 v_places_8 v_isCut_9 hc_) gX11_placementCost_X11_laysPlaces rfl ⟨rfl, rfl⟩ hy_X11_laysPlaces ⟨Nat.le_of_ble_eq_true rfl, Nat.le_of_ble_eq_true rfl⟩ rfl rfl rfl (q0 := 0) rfl rfl rfl (Nat.le_of_ble_eq_true rfl) rfl dX11_placementCost_6 rfl rfl ?_
  cases hF
  rw [hQ]
  exact gq_iret hC rfl dX11_placementCost_9
theorem hy_X11_choices : yX11_choices.cls = RX11 ∧ yX11_choices.cls ≠ "java/lang/invoke/MethodHandle" ∧ yX11_choices.cls ≠ "java/lang/invoke/VarHandle" ∧ (parseMethodDescriptor yX11_choices.desc).map (fun d => d.parameters.length) = some 1 := by decide +kernel
set_option maxRecDepth 20000 in
set_option maxHeartbeats 4000000 in
theorem k_X11_choices (l : Launch) (D : va_G) (cI cJ cZ cO : ClassId) (z : Nat → Nat)   (h_t_ : Nat) (h_a : Nat) (h_fresh : Nat) (h_kept : Nat) (h_buffer : Nat) (h_worthFrom : Nat) (h_cutsFrom : Nat) (h_endFrom : Nat) (h_changes : Nat) (h_waysFrom : Nat) (h_costAt : Nat) (h_places : Nat) (h_isCut : Nat) (h_written : Nat) (x1 : Int32) (v_keptMany : Int32) (v_thrown : Int32) (v_buffered : Int32) (v_size : Int32) (v_at : Int32) (v_behind : Int32) (v_kind : Int32) (v_wrong : Int32) (v_wrongAt : Int32) (v_errorAt : Int32) (v_number : Int64) (v_toCut : Int32) (v_toLeave : Int32) (v_writtenMany : Int32) (v_a : Nat → Int64) (r_ : Int32) (w_thrown : Int32) (hF : F_X11_choices x1 v_thrown v_a = some (r_, w_thrown)) : Mi l yX11_choices wsX11_choices (rmD 4) D (gq_ty cI cJ cZ cO) z [.ref h_t_, .int x1] [(h_t_, .inr (11, [.ref h_a, .ref h_fresh, .ref h_kept, .int v_keptMany, .int v_thrown, .ref h_buffer, .int v_buffered, .int v_size, .int v_at, .int v_behind, .int v_kind, .int v_wrong, .int v_wrongAt, .int v_errorAt, .long v_number, .ref h_worthFrom, .ref h_cutsFrom, .ref h_endFrom, .ref h_changes, .ref h_waysFrom, .int v_toCut, .int v_toLeave, .ref h_costAt, .ref h_places, .ref h_isCut, .ref h_written, .int v_writtenMany])), (h_a, .inl (cJ, 499, .inr (.inl v_a)))] r_ [(h_t_, .inr (11, [.ref h_a, .ref h_fresh, .ref h_kept, .int v_keptMany, .int w_thrown, .ref h_buffer, .int v_buffered, .int v_size, .int v_at, .int v_behind, .int v_kind, .int v_wrong, .int v_wrongAt, .int v_errorAt, .long v_number, .ref h_worthFrom, .ref h_cutsFrom, .ref h_endFrom, .ref h_changes, .ref h_waysFrom, .int v_toCut, .int v_toLeave, .ref h_costAt, .ref h_places, .ref h_isCut, .ref h_written, .int v_writtenMany])), (h_a, .inl (cJ, 499, .inr (.inl v_a)))] 0 0 := by
  refine Mi.of (cc := cX11_choices) (maxL := 4) (by decide) rfl (Nat.le_of_ble_eq_true rfl) ⟨Nat.le_refl 0, Nat.le_refl 0⟩ ?_
  intro p e s m args below meth c A hC ha
  have hin_X11 : ∀ w ∈ wsX110, w ∈ wsX11_choices := by decide +kernel
  have hw_79 : Cond.fieldLink RX11 79 (TX11 4).1 (TX11 4).2.1 (TX11 4).2.2.1 ∈ wsX11_choices := by decide +kernel
  obtain ⟨Q, hQ⟩ : ∃ Q, Q = gq_Qi below D A args s r_ [(h_t_, .inr (11, [.ref h_a, .ref h_fresh, .ref h_kept, .int v_keptMany, .int w_thrown, .ref h_buffer, .int v_buffered, .int v_size, .int v_at, .int v_behind, .int v_kind, .int v_wrong, .int v_wrongAt, .int v_errorAt, .long v_number, .ref h_worthFrom, .ref h_cutsFrom, .ref h_endFrom, .ref h_changes, .ref h_waysFrom, .int v_toCut, .int v_toLeave, .ref h_costAt, .ref h_places, .ref h_isCut, .ref h_written, .int v_writtenMany])), (h_a, .inl (cJ, 499, .inr (.inl v_a)))] 0 0 := ⟨_, rfl⟩
  rw [← hQ]
  refine gq_loc [(0, .ref h_t_), (1, .int x1)] rfl ?_
  have jb14 : ∀ (st_1 : Int32) (v_thrown_2 : Int32), F_X11_choices_b14 x1 st_1 v_thrown_2 v_a = some (r_, w_thrown) → Gx p l e (rmD 4) s m args below meth c D A 4 Q 0 0 14 [(0, .ref h_t_), (1, .int x1)] [.int st_1, .ref h_t_] [(h_t_, .inr (11, [.ref h_a, .ref h_fresh, .ref h_kept, .int v_keptMany, .int v_thrown_2, .ref h_buffer, .int v_buffered, .int v_size, .int v_at, .int v_behind, .int v_kind, .int v_wrong, .int v_wrongAt, .int v_errorAt, .long v_number, .ref h_worthFrom, .ref h_cutsFrom, .ref h_endFrom, .ref h_changes, .ref h_waysFrom, .int v_toCut, .int v_toLeave, .ref h_costAt, .ref h_places, .ref h_isCut, .ref h_written, .int v_writtenMany])), (h_a, .inl (cJ, 499, .inr (.inl v_a)))] := by
    intro st_1 v_thrown_2 hF
    unfold F_X11_choices_b14 at hF
    refine gq_put1 hC (kf := 4) 0 [(h_t_, .inr (11, [.ref h_a, .ref h_fresh, .ref h_kept, .int v_keptMany, .int st_1, .ref h_buffer, .int v_buffered, .int v_size, .int v_at, .int v_behind, .int v_kind, .int v_wrong, .int v_wrongAt, .int v_errorAt, .long v_number, .ref h_worthFrom, .ref h_cutsFrom, .ref h_endFrom, .ref h_changes, .ref h_waysFrom, .int v_toCut, .int v_toLeave, .ref h_costAt, .ref h_places, .ref h_isCut, .ref h_written, .int v_writtenMany])), (h_a, .inl (cJ, 499, .inr (.inl v_a)))] tyX11 tyX11_ok nmX11 hin_X11 rfl rfl (by decide) hw_79 rfl rfl rfl (Nat.le_of_ble_eq_true rfl) dX11_choices_14 rfl ?_
    refine gq_aload_n hC 0 dX11_choices_17 rfl rfl ?_
    refine gq_get hC (kf := 4) 0 hin_X11 rfl rfl (by decide) hw_79 rfl dX11_choices_18 ?_
    refine gq_if_le hC 26 dX11_choices_21 (by decide) (fun hc_12 => ?_) (fun hc_12 => ?_)
    · have hF := (if_pos hc_12).symm.trans hF
      refine gq_iconst hC (0 : Int32) dX11_choices_26 (by decide) ?_
      refine gq_istore_n hC [(2, .int (0 : Int32)), (0, .ref h_t_), (1, .int x1)] dX11_choices_27 rfl (by decide) rfl ?_
      refine gq_iconst hC (0 : Int32) dX11_choices_28 (by decide) ?_
      refine gq_istore_n hC [(3, .int (0 : Int32)), (2, .int (0 : Int32)), (0, .ref h_t_), (1, .int x1)] dX11_choices_29 rfl (by decide) rfl ?_
      have lp30 : ∀ (v_thrown_5 : Int32), ∀ (e_10 : Int32), Gx p l e (rmD 4) s m args below meth c D A 4 Q 0 0 63 [(2, .int e_10)] [] [(h_t_, .inr (11, [.ref h_a, .ref h_fresh, .ref h_kept, .int v_keptMany, .int v_thrown_5, .ref h_buffer, .int v_buffered, .int v_size, .int v_at, .int v_behind, .int v_kind, .int v_wrong, .int v_wrongAt, .int v_errorAt, .long v_number, .ref h_worthFrom, .ref h_cutsFrom, .ref h_endFrom, .ref h_changes, .ref h_waysFrom, .int v_toCut, .int v_toLeave, .ref h_costAt, .ref h_places, .ref h_isCut, .ref h_written, .int v_writtenMany])), (h_a, .inl (cJ, 499, .inr (.inl v_a)))] → ∀ (N : Nat) (l2_3 : Int32) (l3_4 : Int32), wh (fun k q => S_X11_choices_30 x1 v_thrown_5 v_a k q.1 q.2) N (l2_3, l3_4) = some e_10 → Gx p l e (rmD 4) s m args below meth c D A 4 Q 0 0 30 [(0, .ref h_t_), (1, .int x1), (2, .int l2_3), (3, .int l3_4)] [] [(h_t_, .inr (11, [.ref h_a, .ref h_fresh, .ref h_kept, .int v_keptMany, .int v_thrown_5, .ref h_buffer, .int v_buffered, .int v_size, .int v_at, .int v_behind, .int v_kind, .int v_wrong, .int v_wrongAt, .int v_errorAt, .long v_number, .ref h_worthFrom, .ref h_cutsFrom, .ref h_endFrom, .ref h_changes, .ref h_waysFrom, .int v_toCut, .int v_toLeave, .ref h_costAt, .ref h_places, .ref h_isCut, .ref h_written, .int v_writtenMany])), (h_a, .inl (cJ, 499, .inr (.inl v_a)))] := by
        intro v_thrown_5 e_10 hx0 N
        induction N with
        | zero => intro l2_3 l3_4 hw; exact absurd hw (wh_0 _ _ _)
        | succ N ih =>
          intro l2_3 l3_4 hw
          have hF : S_X11_choices_30 x1 v_thrown_5 v_a (wh (fun k q => S_X11_choices_30 x1 v_thrown_5 v_a k q.1 q.2) N) l2_3 l3_4 = some e_10 := hw
          unfold S_X11_choices_30 at hF
          refine gq_iload_n hC 3 dX11_choices_30 rfl rfl ?_
          refine gq_aload_n hC 0 dX11_choices_31 rfl rfl ?_
          obtain ⟨r_6, hc_, hF⟩ := ob1_e hF
          refine gq_callVi hC [0, 1] [(h_t_, .inr (11, [.ref h_a, .ref h_fresh, .ref h_kept, .int v_keptMany, .int v_thrown_5, .ref h_buffer, .int v_buffered, .int v_size, .int v_at, .int v_behind, .int v_kind, .int v_wrong, .int v_wrongAt, .int v_errorAt, .long v_number, .ref h_worthFrom, .ref h_cutsFrom, .ref h_endFrom, .ref h_changes, .ref h_waysFrom, .int v_toCut, .int v_toLeave, .ref h_costAt, .ref h_places, .ref h_isCut, .ref h_written, .int v_writtenMany])), (h_a, .inl (cJ, 499, .inr (.inl v_a)))] [] [.int l3_4] (k_X11_many l D cI cJ cZ cO z h_t_ h_a h_fresh h_kept h_buffer h_worthFrom h_cutsFrom h_endFrom h_changes h_waysFrom h_costAt h_places h_isCut h_written v_keptMany v_thrown_5 v_buffered v_size v_at v_behind v_kind v_wrong v_wrongAt v_errorAt v_number v_toCut v_toLeave v_writtenMany v_a r_6 hc_) gX11_choices_X11_many rfl ⟨rfl, rfl⟩ hy_X11_many ⟨Nat.le_of_ble_eq_true rfl, Nat.le_of_ble_eq_true rfl⟩ rfl rfl rfl (q0 := 0) rfl rfl rfl (Nat.le_of_ble_eq_true rfl) rfl dX11_choices_32 rfl rfl ?_
          refine gq_iconst hC (1 : Int32) dX11_choices_35 (by decide) ?_
          refine gq_isub hC dX11_choices_36 ?_
          refine gq_icmp_ge hC 63 dX11_choices_37 (by decide) (fun hc_9 => ?_) (fun hc_9 => ?_)
          · have hF := (if_pos hc_9).symm.trans hF
            refine gq_sub [(2, .int l2_3)] [2] rfl ?_
            cases hF
            exact hx0
          · have hF := (if_neg hc_9).symm.trans hF
            refine gq_iload_n hC 2 dX11_choices_40 rfl rfl ?_
            refine gq_aload_n hC 0 dX11_choices_41 rfl rfl ?_
            refine gq_iload_n hC 1 dX11_choices_42 rfl rfl ?_
            refine gq_iload_n hC 3 dX11_choices_43 rfl rfl ?_
            obtain ⟨r_7, hc_, hF⟩ := ob1_e hF
            refine gq_callVi hC [0, 1] [(h_t_, .inr (11, [.ref h_a, .ref h_fresh, .ref h_kept, .int v_keptMany, .int v_thrown_5, .ref h_buffer, .int v_buffered, .int v_size, .int v_at, .int v_behind, .int v_kind, .int v_wrong, .int v_wrongAt, .int v_errorAt, .long v_number, .ref h_worthFrom, .ref h_cutsFrom, .ref h_endFrom, .ref h_changes, .ref h_waysFrom, .int v_toCut, .int v_toLeave, .ref h_costAt, .ref h_places, .ref h_isCut, .ref h_written, .int v_writtenMany])), (h_a, .inl (cJ, 499, .inr (.inl v_a)))] [.int x1, .int l3_4] [.int l2_3] (k_X11_mayHave l D cI cJ cZ cO z h_t_ h_a h_fresh h_kept h_buffer h_worthFrom h_cutsFrom h_endFrom h_changes h_waysFrom h_costAt h_places h_isCut h_written x1 l3_4 v_keptMany v_thrown_5 v_buffered v_size v_at v_behind v_kind v_wrong v_wrongAt v_errorAt v_number v_toCut v_toLeave v_writtenMany v_a r_7 hc_) gX11_choices_X11_mayHave rfl ⟨rfl, rfl⟩ hy_X11_mayHave ⟨Nat.le_of_ble_eq_true rfl, Nat.le_of_ble_eq_true rfl⟩ rfl rfl rfl (q0 := 0) rfl rfl rfl (Nat.le_of_ble_eq_true rfl) rfl dX11_choices_44 rfl rfl ?_
            refine gq_if_eq hC 54 dX11_choices_47 (by decide) (fun hc_8 => ?_) (fun hc_8 => ?_)
            · have hF := (if_pos hc_8).symm.trans hF
              refine gq_iconst hC (0 : Int32) dX11_choices_54 (by decide) ?_
              refine gq_iadd hC dX11_choices_55 ?_
              refine gq_istore_n hC [(2, .int (l2_3 + (0 : Int32))), (0, .ref h_t_), (1, .int x1), (3, .int l3_4)] dX11_choices_56 rfl (by decide) rfl ?_
              refine gq_iinc hC 3 (l3_4 + (1 : Int32)) [(3, .int (l3_4 + (1 : Int32))), (2, .int (l2_3 + (0 : Int32))), (0, .ref h_t_), (1, .int x1)] dX11_choices_57 rfl rfl (by decide) rfl ?_
              refine gq_goto hC 30 dX11_choices_60 (by decide) ?_
              refine gq_sub [(0, .ref h_t_), (1, .int x1), (2, .int (l2_3 + (0 : Int32))), (3, .int (l3_4 + (1 : Int32)))] [2, 3, 1, 0] rfl ?_
              exact ih (l2_3 + (0 : Int32)) (l3_4 + (1 : Int32)) hF
            · have hF := (if_neg hc_8).symm.trans hF
              refine gq_iconst hC (1 : Int32) dX11_choices_50 (by decide) ?_
              refine gq_goto hC 55 dX11_choices_51 (by decide) ?_
              refine gq_iadd hC dX11_choices_55 ?_
              refine gq_istore_n hC [(2, .int (l2_3 + (1 : Int32))), (0, .ref h_t_), (1, .int x1), (3, .int l3_4)] dX11_choices_56 rfl (by decide) rfl ?_
              refine gq_iinc hC 3 (l3_4 + (1 : Int32)) [(3, .int (l3_4 + (1 : Int32))), (2, .int (l2_3 + (1 : Int32))), (0, .ref h_t_), (1, .int x1)] dX11_choices_57 rfl rfl (by decide) rfl ?_
              refine gq_goto hC 30 dX11_choices_60 (by decide) ?_
              refine gq_sub [(0, .ref h_t_), (1, .int x1), (2, .int (l2_3 + (1 : Int32))), (3, .int (l3_4 + (1 : Int32)))] [2, 3, 1, 0] rfl ?_
              exact ih (l2_3 + (1 : Int32)) (l3_4 + (1 : Int32)) hF
      refine gq_sub [(0, .ref h_t_), (1, .int x1), (2, .int (0 : Int32)), (3, .int (0 : Int32))] [2, 3, 1, 0] rfl ?_
      obtain ⟨e_11, hw_, hF⟩ := ob1_e hF
      refine lp30 st_1 e_11 ?_ wF (0 : Int32) (0 : Int32) hw_
      refine gq_iload_n hC 0 dX11_choices_63 rfl rfl ?_
      cases hF
      rw [hQ]
      exact gq_iret hC rfl dX11_choices_64
    · have hF := (if_neg hc_12).symm.trans hF
      refine gq_iconst hC (0 : Int32) dX11_choices_24 (by decide) ?_
      cases hF
      rw [hQ]
      exact gq_iret hC rfl dX11_choices_25
  unfold F_X11_choices at hF
  refine gq_aload_n hC 0 dX11_choices_0 rfl rfl ?_
  refine gq_aload_n hC 0 dX11_choices_1 rfl rfl ?_
  refine gq_iload_n hC 1 dX11_choices_2 rfl rfl ?_
  obtain ⟨r_13, hc_, hF⟩ := ob1_e hF
  refine gq_callVi hC [0, 1] [(h_t_, .inr (11, [.ref h_a, .ref h_fresh, .ref h_kept, .int v_keptMany, .int v_thrown, .ref h_buffer, .int v_buffered, .int v_size, .int v_at, .int v_behind, .int v_kind, .int v_wrong, .int v_wrongAt, .int v_errorAt, .long v_number, .ref h_worthFrom, .ref h_cutsFrom, .ref h_endFrom, .ref h_changes, .ref h_waysFrom, .int v_toCut, .int v_toLeave, .ref h_costAt, .ref h_places, .ref h_isCut, .ref h_written, .int v_writtenMany])), (h_a, .inl (cJ, 499, .inr (.inl v_a)))] [.int x1] [.ref h_t_] (k_X11_isSlot l D cI cJ cZ cO z h_t_ h_a h_fresh h_kept h_buffer h_worthFrom h_cutsFrom h_endFrom h_changes h_waysFrom h_costAt h_places h_isCut h_written x1 v_keptMany v_thrown v_buffered v_size v_at v_behind v_kind v_wrong v_wrongAt v_errorAt v_number v_toCut v_toLeave v_writtenMany v_a r_13 hc_) gX11_choices_X11_isSlot rfl ⟨rfl, rfl⟩ hy_X11_isSlot ⟨Nat.le_of_ble_eq_true rfl, Nat.le_of_ble_eq_true rfl⟩ rfl rfl rfl (q0 := 0) rfl rfl rfl (Nat.le_of_ble_eq_true rfl) rfl dX11_choices_3 rfl rfl ?_
  refine gq_if_eq hC 13 dX11_choices_6 (by decide) (fun hc_14 => ?_) (fun hc_14 => ?_)
  · have hF := (if_pos hc_14).symm.trans hF
    refine gq_iconst hC (1 : Int32) dX11_choices_13 (by decide) ?_
    exact jb14 (1 : Int32) v_thrown hF
  · have hF := (if_neg hc_14).symm.trans hF
    refine gq_iconst hC (0 : Int32) dX11_choices_9 (by decide) ?_
    refine gq_goto hC 14 dX11_choices_10 (by decide) ?_
    exact jb14 (0 : Int32) v_thrown hF
theorem hy_X11_keep : yX11_keep.cls = RX11 ∧ yX11_keep.cls ≠ "java/lang/invoke/MethodHandle" ∧ yX11_keep.cls ≠ "java/lang/invoke/VarHandle" ∧ (parseMethodDescriptor yX11_keep.desc).map (fun d => d.parameters.length) = some 0 := by decide +kernel
set_option maxRecDepth 20000 in
set_option maxHeartbeats 4000000 in
theorem k_X11_keep (l : Launch) (D : va_G) (cI cJ cZ cO : ClassId) (z : Nat → Nat)   (h_t_ : Nat) (h_a : Nat) (h_kept : Nat) (h_fresh : Nat) (h_buffer : Nat) (h_worthFrom : Nat) (h_cutsFrom : Nat) (h_endFrom : Nat) (h_changes : Nat) (h_waysFrom : Nat) (h_costAt : Nat) (h_places : Nat) (h_isCut : Nat) (h_written : Nat)  (v_keptMany : Int32) (v_thrown : Int32) (v_buffered : Int32) (v_size : Int32) (v_at : Int32) (v_behind : Int32) (v_kind : Int32) (v_wrong : Int32) (v_wrongAt : Int32) (v_errorAt : Int32) (v_number : Int64) (v_toCut : Int32) (v_toLeave : Int32) (v_writtenMany : Int32) (v_a : Nat → Int64) (v_kept : Nat → Int64) (r_ : Int32) (w_keptMany : Int32) (w_thrown : Int32) (w_a : Nat → Int64) (w_kept : Nat → Int64) (hF : F_X11_keep v_keptMany v_thrown v_a v_kept = some (r_, w_keptMany, w_thrown, w_a, w_kept)) : Mi l yX11_keep wsX11_keep (rmD 2) D (gq_ty cI cJ cZ cO) z [.ref h_t_] [(h_t_, .inr (11, [.ref h_a, .ref h_fresh, .ref h_kept, .int v_keptMany, .int v_thrown, .ref h_buffer, .int v_buffered, .int v_size, .int v_at, .int v_behind, .int v_kind, .int v_wrong, .int v_wrongAt, .int v_errorAt, .long v_number, .ref h_worthFrom, .ref h_cutsFrom, .ref h_endFrom, .ref h_changes, .ref h_waysFrom, .int v_toCut, .int v_toLeave, .ref h_costAt, .ref h_places, .ref h_isCut, .ref h_written, .int v_writtenMany])), (h_a, .inl (cJ, 499, .inr (.inl v_a))), (h_kept, .inl (cJ, 3992, .inr (.inl v_kept)))] r_ [(h_t_, .inr (11, [.ref h_a, .ref h_fresh, .ref h_kept, .int w_keptMany, .int w_thrown, .ref h_buffer, .int v_buffered, .int v_size, .int v_at, .int v_behind, .int v_kind, .int v_wrong, .int v_wrongAt, .int v_errorAt, .long v_number, .ref h_worthFrom, .ref h_cutsFrom, .ref h_endFrom, .ref h_changes, .ref h_waysFrom, .int v_toCut, .int v_toLeave, .ref h_costAt, .ref h_places, .ref h_isCut, .ref h_written, .int v_writtenMany])), (h_a, .inl (cJ, 499, .inr (.inl w_a))), (h_kept, .inl (cJ, 3992, .inr (.inl w_kept)))] 0 0 := by
  refine Mi.of (cc := cX11_keep) (maxL := 2) (by decide) rfl (Nat.le_of_ble_eq_true rfl) ⟨Nat.le_refl 0, Nat.le_refl 0⟩ ?_
  intro p e s m args below meth c A hC ha
  have hin_X11 : ∀ w ∈ wsX110, w ∈ wsX11_keep := by decide +kernel
  have hw_9 : Cond.fieldLink RX11 9 (TX11 0).1 (TX11 0).2.1 (TX11 0).2.2.1 ∈ wsX11_keep := by decide +kernel
  have hw_79 : Cond.fieldLink RX11 79 (TX11 4).1 (TX11 4).2.1 (TX11 4).2.2.1 ∈ wsX11_keep := by decide +kernel
  obtain ⟨Q, hQ⟩ : ∃ Q, Q = gq_Qi below D A args s r_ [(h_t_, .inr (11, [.ref h_a, .ref h_fresh, .ref h_kept, .int w_keptMany, .int w_thrown, .ref h_buffer, .int v_buffered, .int v_size, .int v_at, .int v_behind, .int v_kind, .int v_wrong, .int v_wrongAt, .int v_errorAt, .long v_number, .ref h_worthFrom, .ref h_cutsFrom, .ref h_endFrom, .ref h_changes, .ref h_waysFrom, .int v_toCut, .int v_toLeave, .ref h_costAt, .ref h_places, .ref h_isCut, .ref h_written, .int v_writtenMany])), (h_a, .inl (cJ, 499, .inr (.inl w_a))), (h_kept, .inl (cJ, 3992, .inr (.inl w_kept)))] 0 0 := ⟨_, rfl⟩
  rw [← hQ]
  refine gq_loc [(0, .ref h_t_)] rfl ?_
  unfold F_X11_keep at hF
  refine gq_aload_n hC 0 dX11_keep_0 rfl rfl ?_
  refine gq_iconst hC (0 : Int32) dX11_keep_1 (by decide) ?_
  refine gq_put1 hC (kf := 4) 0 [(h_t_, .inr (11, [.ref h_a, .ref h_fresh, .ref h_kept, .int v_keptMany, .int (0 : Int32), .ref h_buffer, .int v_buffered, .int v_size, .int v_at, .int v_behind, .int v_kind, .int v_wrong, .int v_wrongAt, .int v_errorAt, .long v_number, .ref h_worthFrom, .ref h_cutsFrom, .ref h_endFrom, .ref h_changes, .ref h_waysFrom, .int v_toCut, .int v_toLeave, .ref h_costAt, .ref h_places, .ref h_isCut, .ref h_written, .int v_writtenMany])), (h_a, .inl (cJ, 499, .inr (.inl v_a))), (h_kept, .inl (cJ, 3992, .inr (.inl v_kept)))] tyX11 tyX11_ok nmX11 hin_X11 rfl rfl (by decide) hw_79 rfl rfl rfl (Nat.le_of_ble_eq_true rfl) dX11_keep_2 rfl ?_
  refine gq_aload_n hC 0 dX11_keep_5 rfl rfl ?_
  obtain ⟨v_keptMany_1, v_kept_2, hc_, hF⟩ := ob2_e hF
  refine gq_callVv hC [0, 1, 2] [(h_t_, .inr (11, [.ref h_a, .ref h_fresh, .ref h_kept, .int v_keptMany_1, .int (0 : Int32), .ref h_buffer, .int v_buffered, .int v_size, .int v_at, .int v_behind, .int v_kind, .int v_wrong, .int v_wrongAt, .int v_errorAt, .long v_number, .ref h_worthFrom, .ref h_cutsFrom, .ref h_endFrom, .ref h_changes, .ref h_waysFrom, .int v_toCut, .int v_toLeave, .ref h_costAt, .ref h_places, .ref h_isCut, .ref h_written, .int v_writtenMany])), (h_a, .inl (cJ, 499, .inr (.inl v_a))), (h_kept, .inl (cJ, 3992, .inr (.inl v_kept_2)))] [] [] (k_X11_keeps l D cI cJ cZ cO z h_t_ h_a h_kept h_fresh h_buffer h_worthFrom h_cutsFrom h_endFrom h_changes h_waysFrom h_costAt h_places h_isCut h_written v_keptMany (0 : Int32) v_buffered v_size v_at v_behind v_kind v_wrong v_wrongAt v_errorAt v_number v_toCut v_toLeave v_writtenMany v_a v_kept v_keptMany_1 v_kept_2 hc_) gX11_keep_X11_keeps rfl ⟨rfl, rfl⟩ hy_X11_keeps ⟨Nat.le_of_ble_eq_true rfl, Nat.le_of_ble_eq_true rfl⟩ rfl rfl rfl (q0 := 0) rfl rfl rfl (Nat.le_of_ble_eq_true rfl) rfl dX11_keep_6 rfl rfl ?_
  refine gq_aload_n hC 0 dX11_keep_9 rfl rfl ?_
  refine gq_get hC (kf := 0) 0 hin_X11 rfl rfl (by decide) hw_9 rfl dX11_keep_10 ?_
  refine gq_sipush hC (409 : Int32) dX11_keep_13 (by decide) ?_
  refine gq_lconst hC (1 : Int64) dX11_keep_16 (by decide) ?_
  obtain ⟨hi_3, hF⟩ := gi_e hF
  refine gq_last hC 1 1 [(h_t_, .inr (11, [.ref h_a, .ref h_fresh, .ref h_kept, .int v_keptMany_1, .int (0 : Int32), .ref h_buffer, .int v_buffered, .int v_size, .int v_at, .int v_behind, .int v_kind, .int v_wrong, .int v_wrongAt, .int v_errorAt, .long v_number, .ref h_worthFrom, .ref h_cutsFrom, .ref h_endFrom, .ref h_changes, .ref h_waysFrom, .int v_toCut, .int v_toLeave, .ref h_costAt, .ref h_places, .ref h_isCut, .ref h_written, .int v_writtenMany])), (h_a, .inl (cJ, 499, .inr (.inl (vp_updL v_a (409 : Int32).toNatClampNeg (1 : Int64))))), (h_kept, .inl (cJ, 3992, .inr (.inl v_kept_2)))] rfl rfl hi_3 dX11_keep_17 rfl ?_
  refine gq_aload_n hC 0 dX11_keep_18 rfl rfl ?_
  refine gq_get hC (kf := 0) 0 hin_X11 rfl rfl (by decide) hw_9 rfl dX11_keep_19 ?_
  refine gq_sipush hC (410 : Int32) dX11_keep_22 (by decide) ?_
  refine gq_aload_n hC 0 dX11_keep_25 rfl rfl ?_
  obtain ⟨r_4, hc_, hF⟩ := ob1_e hF
  refine gq_callVi hC [0, 1] [(h_t_, .inr (11, [.ref h_a, .ref h_fresh, .ref h_kept, .int v_keptMany_1, .int (0 : Int32), .ref h_buffer, .int v_buffered, .int v_size, .int v_at, .int v_behind, .int v_kind, .int v_wrong, .int v_wrongAt, .int v_errorAt, .long v_number, .ref h_worthFrom, .ref h_cutsFrom, .ref h_endFrom, .ref h_changes, .ref h_waysFrom, .int v_toCut, .int v_toLeave, .ref h_costAt, .ref h_places, .ref h_isCut, .ref h_written, .int v_writtenMany])), (h_a, .inl (cJ, 499, .inr (.inl (vp_updL v_a (409 : Int32).toNatClampNeg (1 : Int64))))), (h_kept, .inl (cJ, 3992, .inr (.inl v_kept_2)))] [] [.int (410 : Int32), .ref h_a] (k_X11_many l D cI cJ cZ cO z h_t_ h_a h_fresh h_kept h_buffer h_worthFrom h_cutsFrom h_endFrom h_changes h_waysFrom h_costAt h_places h_isCut h_written v_keptMany_1 (0 : Int32) v_buffered v_size v_at v_behind v_kind v_wrong v_wrongAt v_errorAt v_number v_toCut v_toLeave v_writtenMany (vp_updL v_a (409 : Int32).toNatClampNeg (1 : Int64)) r_4 hc_) gX11_keep_X11_many rfl ⟨rfl, rfl⟩ hy_X11_many ⟨Nat.le_of_ble_eq_true rfl, Nat.le_of_ble_eq_true rfl⟩ rfl rfl rfl (q0 := 0) rfl rfl rfl (Nat.le_of_ble_eq_true rfl) rfl dX11_keep_26 rfl rfl ?_
  refine gq_i2l hC dX11_keep_29 ?_
  obtain ⟨hi_5, hF⟩ := gi_e hF
  refine gq_last hC 1 1 [(h_t_, .inr (11, [.ref h_a, .ref h_fresh, .ref h_kept, .int v_keptMany_1, .int (0 : Int32), .ref h_buffer, .int v_buffered, .int v_size, .int v_at, .int v_behind, .int v_kind, .int v_wrong, .int v_wrongAt, .int v_errorAt, .long v_number, .ref h_worthFrom, .ref h_cutsFrom, .ref h_endFrom, .ref h_changes, .ref h_waysFrom, .int v_toCut, .int v_toLeave, .ref h_costAt, .ref h_places, .ref h_isCut, .ref h_written, .int v_writtenMany])), (h_a, .inl (cJ, 499, .inr (.inl (vp_updL (vp_updL v_a (409 : Int32).toNatClampNeg (1 : Int64)) (410 : Int32).toNatClampNeg (r_4.toInt64))))), (h_kept, .inl (cJ, 3992, .inr (.inl v_kept_2)))] rfl rfl hi_5 dX11_keep_30 rfl ?_
  refine gq_iconst hC (0 : Int32) dX11_keep_31 (by decide) ?_
  refine gq_istore_n hC [(1, .int (0 : Int32)), (0, .ref h_t_)] dX11_keep_32 rfl (by decide) rfl ?_
  have lp33 : ∀ (v_keptMany_7 : Int32) (v_thrown_8 : Int32) (v_kept_10 : Nat → Int64), ∀ (e_28 : (Nat → Int64)), Gx p l e (rmD 2) s m args below meth c D A 2 Q 0 0 110 [(0, .ref h_t_)] [] [(h_t_, .inr (11, [.ref h_a, .ref h_fresh, .ref h_kept, .int v_keptMany_7, .int v_thrown_8, .ref h_buffer, .int v_buffered, .int v_size, .int v_at, .int v_behind, .int v_kind, .int v_wrong, .int v_wrongAt, .int v_errorAt, .long v_number, .ref h_worthFrom, .ref h_cutsFrom, .ref h_endFrom, .ref h_changes, .ref h_waysFrom, .int v_toCut, .int v_toLeave, .ref h_costAt, .ref h_places, .ref h_isCut, .ref h_written, .int v_writtenMany])), (h_a, .inl (cJ, 499, .inr (.inl e_28))), (h_kept, .inl (cJ, 3992, .inr (.inl v_kept_10)))] → ∀ (N : Nat) (l1_6 : Int32) (v_a_9 : Nat → Int64), wh (fun k q => S_X11_keep_33 v_keptMany_7 v_thrown_8 v_kept_10 k q.1 q.2) N (l1_6, v_a_9) = some e_28 → Gx p l e (rmD 2) s m args below meth c D A 2 Q 0 0 33 [(0, .ref h_t_), (1, .int l1_6)] [] [(h_t_, .inr (11, [.ref h_a, .ref h_fresh, .ref h_kept, .int v_keptMany_7, .int v_thrown_8, .ref h_buffer, .int v_buffered, .int v_size, .int v_at, .int v_behind, .int v_kind, .int v_wrong, .int v_wrongAt, .int v_errorAt, .long v_number, .ref h_worthFrom, .ref h_cutsFrom, .ref h_endFrom, .ref h_changes, .ref h_waysFrom, .int v_toCut, .int v_toLeave, .ref h_costAt, .ref h_places, .ref h_isCut, .ref h_written, .int v_writtenMany])), (h_a, .inl (cJ, 499, .inr (.inl v_a_9))), (h_kept, .inl (cJ, 3992, .inr (.inl v_kept_10)))] := by
    intro v_keptMany_7 v_thrown_8 v_kept_10 e_28 hx0 N
    induction N with
    | zero => intro l1_6 v_a_9 hw; exact absurd hw (wh_0 _ _ _)
    | succ N ih =>
      have jb103 : ∀ (l1_11 : Int32) (st_12 : Int64) (st_13 : Int32) (v_a_14 : Nat → Int64), F_X11_keep_b103 (wh (fun k q => S_X11_keep_33 v_keptMany_7 v_thrown_8 v_kept_10 k q.1 q.2) N) l1_11 st_12 st_13 v_keptMany_7 v_thrown_8 v_a_14 v_kept_10 = some e_28 → Gx p l e (rmD 2) s m args below meth c D A 2 Q 0 0 103 [(0, .ref h_t_), (1, .int l1_11)] [.long st_12, .int st_13, .ref h_a] [(h_t_, .inr (11, [.ref h_a, .ref h_fresh, .ref h_kept, .int v_keptMany_7, .int v_thrown_8, .ref h_buffer, .int v_buffered, .int v_size, .int v_at, .int v_behind, .int v_kind, .int v_wrong, .int v_wrongAt, .int v_errorAt, .long v_number, .ref h_worthFrom, .ref h_cutsFrom, .ref h_endFrom, .ref h_changes, .ref h_waysFrom, .int v_toCut, .int v_toLeave, .ref h_costAt, .ref h_places, .ref h_isCut, .ref h_written, .int v_writtenMany])), (h_a, .inl (cJ, 499, .inr (.inl v_a_14))), (h_kept, .inl (cJ, 3992, .inr (.inl v_kept_10)))] := by
        intro l1_11 st_12 st_13 v_a_14 hF
        unfold F_X11_keep_b103 at hF
        obtain ⟨hi_15, hF⟩ := gi_e hF
        refine gq_last hC 1 1 [(h_t_, .inr (11, [.ref h_a, .ref h_fresh, .ref h_kept, .int v_keptMany_7, .int v_thrown_8, .ref h_buffer, .int v_buffered, .int v_size, .int v_at, .int v_behind, .int v_kind, .int v_wrong, .int v_wrongAt, .int v_errorAt, .long v_number, .ref h_worthFrom, .ref h_cutsFrom, .ref h_endFrom, .ref h_changes, .ref h_waysFrom, .int v_toCut, .int v_toLeave, .ref h_costAt, .ref h_places, .ref h_isCut, .ref h_written, .int v_writtenMany])), (h_a, .inl (cJ, 499, .inr (.inl (vp_updL v_a_14 st_13.toNatClampNeg st_12)))), (h_kept, .inl (cJ, 3992, .inr (.inl v_kept_10)))] rfl rfl hi_15 dX11_keep_103 rfl ?_
        refine gq_iinc hC 1 (l1_11 + (1 : Int32)) [(1, .int (l1_11 + (1 : Int32))), (0, .ref h_t_)] dX11_keep_104 rfl rfl (by decide) rfl ?_
        refine gq_goto hC 33 dX11_keep_107 (by decide) ?_
        refine gq_sub [(0, .ref h_t_), (1, .int (l1_11 + (1 : Int32)))] [1, 0] rfl ?_
        exact ih (l1_11 + (1 : Int32)) (vp_updL v_a_14 st_13.toNatClampNeg st_12) hF
      have jb70 : ∀ (l1_16 : Int32) (st_17 : Int64) (st_18 : Int32) (v_a_19 : Nat → Int64), F_X11_keep_b70 (wh (fun k q => S_X11_keep_33 v_keptMany_7 v_thrown_8 v_kept_10 k q.1 q.2) N) l1_16 st_17 st_18 v_keptMany_7 v_thrown_8 v_a_19 v_kept_10 = some e_28 → Gx p l e (rmD 2) s m args below meth c D A 2 Q 0 0 70 [(0, .ref h_t_), (1, .int l1_16)] [.long st_17, .int st_18, .ref h_a] [(h_t_, .inr (11, [.ref h_a, .ref h_fresh, .ref h_kept, .int v_keptMany_7, .int v_thrown_8, .ref h_buffer, .int v_buffered, .int v_size, .int v_at, .int v_behind, .int v_kind, .int v_wrong, .int v_wrongAt, .int v_errorAt, .long v_number, .ref h_worthFrom, .ref h_cutsFrom, .ref h_endFrom, .ref h_changes, .ref h_waysFrom, .int v_toCut, .int v_toLeave, .ref h_costAt, .ref h_places, .ref h_isCut, .ref h_written, .int v_writtenMany])), (h_a, .inl (cJ, 499, .inr (.inl v_a_19))), (h_kept, .inl (cJ, 3992, .inr (.inl v_kept_10)))] := by
        intro l1_16 st_17 st_18 v_a_19 hF
        unfold F_X11_keep_b70 at hF
        obtain ⟨hi_20, hF⟩ := gi_e hF
        refine gq_last hC 1 1 [(h_t_, .inr (11, [.ref h_a, .ref h_fresh, .ref h_kept, .int v_keptMany_7, .int v_thrown_8, .ref h_buffer, .int v_buffered, .int v_size, .int v_at, .int v_behind, .int v_kind, .int v_wrong, .int v_wrongAt, .int v_errorAt, .long v_number, .ref h_worthFrom, .ref h_cutsFrom, .ref h_endFrom, .ref h_changes, .ref h_waysFrom, .int v_toCut, .int v_toLeave, .ref h_costAt, .ref h_places, .ref h_isCut, .ref h_written, .int v_writtenMany])), (h_a, .inl (cJ, 499, .inr (.inl (vp_updL v_a_19 st_18.toNatClampNeg st_17)))), (h_kept, .inl (cJ, 3992, .inr (.inl v_kept_10)))] rfl rfl hi_20 dX11_keep_70 rfl ?_
        refine gq_aload_n hC 0 dX11_keep_71 rfl rfl ?_
        refine gq_get hC (kf := 0) 0 hin_X11 rfl rfl (by decide) hw_9 rfl dX11_keep_72 ?_
        refine gq_sipush hC (411 : Int32) dX11_keep_75 (by decide) ?_
        refine gq_iconst hC (2 : Int32) dX11_keep_78 (by decide) ?_
        refine gq_iload_n hC 1 dX11_keep_79 rfl rfl ?_
        refine gq_imul hC dX11_keep_80 ?_
        refine gq_iadd hC dX11_keep_81 ?_
        refine gq_iconst hC (1 : Int32) dX11_keep_82 (by decide) ?_
        refine gq_iadd hC dX11_keep_83 ?_
        refine gq_iload_n hC 1 dX11_keep_84 rfl rfl ?_
        refine gq_aload_n hC 0 dX11_keep_85 rfl rfl ?_
        obtain ⟨r_21, hc_, hF⟩ := ob1_e hF
        refine gq_callVi hC [0, 1] [(h_t_, .inr (11, [.ref h_a, .ref h_fresh, .ref h_kept, .int v_keptMany_7, .int v_thrown_8, .ref h_buffer, .int v_buffered, .int v_size, .int v_at, .int v_behind, .int v_kind, .int v_wrong, .int v_wrongAt, .int v_errorAt, .long v_number, .ref h_worthFrom, .ref h_cutsFrom, .ref h_endFrom, .ref h_changes, .ref h_waysFrom, .int v_toCut, .int v_toLeave, .ref h_costAt, .ref h_places, .ref h_isCut, .ref h_written, .int v_writtenMany])), (h_a, .inl (cJ, 499, .inr (.inl (vp_updL v_a_19 st_18.toNatClampNeg st_17)))), (h_kept, .inl (cJ, 3992, .inr (.inl v_kept_10)))] [] [.int l1_16, .int (((411 : Int32) + ((2 : Int32) * l1_16)) + (1 : Int32)), .ref h_a] (k_X11_many l D cI cJ cZ cO z h_t_ h_a h_fresh h_kept h_buffer h_worthFrom h_cutsFrom h_endFrom h_changes h_waysFrom h_costAt h_places h_isCut h_written v_keptMany_7 v_thrown_8 v_buffered v_size v_at v_behind v_kind v_wrong v_wrongAt v_errorAt v_number v_toCut v_toLeave v_writtenMany (vp_updL v_a_19 st_18.toNatClampNeg st_17) r_21 hc_) gX11_keep_X11_many rfl ⟨rfl, rfl⟩ hy_X11_many ⟨Nat.le_of_ble_eq_true rfl, Nat.le_of_ble_eq_true rfl⟩ rfl rfl rfl (q0 := 0) rfl rfl rfl (Nat.le_of_ble_eq_true rfl) rfl dX11_keep_86 rfl rfl ?_
        refine gq_icmp_ge hC 102 dX11_keep_89 (by decide) (fun hc_23 => ?_) (fun hc_23 => ?_)
        · have hF := (if_pos hc_23).symm.trans hF
          refine gq_lconst hC (0 : Int64) dX11_keep_102 (by decide) ?_
          exact jb103 l1_16 (0 : Int64) (((411 : Int32) + ((2 : Int32) * l1_16)) + (1 : Int32)) (vp_updL v_a_19 st_18.toNatClampNeg st_17) hF
        · have hF := (if_neg hc_23).symm.trans hF
          refine gq_aload_n hC 0 dX11_keep_92 rfl rfl ?_
          refine gq_iload_n hC 1 dX11_keep_93 rfl rfl ?_
          refine gq_iconst hC (0 : Int32) dX11_keep_94 (by decide) ?_
          obtain ⟨r_22, hc_, hF⟩ := ob1_e hF
          refine gq_callVi hC [0, 1] [(h_t_, .inr (11, [.ref h_a, .ref h_fresh, .ref h_kept, .int v_keptMany_7, .int v_thrown_8, .ref h_buffer, .int v_buffered, .int v_size, .int v_at, .int v_behind, .int v_kind, .int v_wrong, .int v_wrongAt, .int v_errorAt, .long v_number, .ref h_worthFrom, .ref h_cutsFrom, .ref h_endFrom, .ref h_changes, .ref h_waysFrom, .int v_toCut, .int v_toLeave, .ref h_costAt, .ref h_places, .ref h_isCut, .ref h_written, .int v_writtenMany])), (h_a, .inl (cJ, 499, .inr (.inl (vp_updL v_a_19 st_18.toNatClampNeg st_17)))), (h_kept, .inl (cJ, 3992, .inr (.inl v_kept_10)))] [.int l1_16, .int (0 : Int32)] [.int (((411 : Int32) + ((2 : Int32) * l1_16)) + (1 : Int32)), .ref h_a] (k_X11_of l D cI cJ cZ cO z h_t_ h_a h_fresh h_kept h_buffer h_worthFrom h_cutsFrom h_endFrom h_changes h_waysFrom h_costAt h_places h_isCut h_written l1_16 (0 : Int32) v_keptMany_7 v_thrown_8 v_buffered v_size v_at v_behind v_kind v_wrong v_wrongAt v_errorAt v_number v_toCut v_toLeave v_writtenMany (vp_updL v_a_19 st_18.toNatClampNeg st_17) r_22 hc_) gX11_keep_X11_of rfl ⟨rfl, rfl⟩ hy_X11_of ⟨Nat.le_of_ble_eq_true rfl, Nat.le_of_ble_eq_true rfl⟩ rfl rfl rfl (q0 := 0) rfl rfl rfl (Nat.le_of_ble_eq_true rfl) rfl dX11_keep_95 rfl rfl ?_
          refine gq_i2l hC dX11_keep_98 ?_
          refine gq_goto hC 103 dX11_keep_99 (by decide) ?_
          exact jb103 l1_16 (r_22.toInt64) (((411 : Int32) + ((2 : Int32) * l1_16)) + (1 : Int32)) (vp_updL v_a_19 st_18.toNatClampNeg st_17) hF
      intro l1_6 v_a_9 hw
      have hF : S_X11_keep_33 v_keptMany_7 v_thrown_8 v_kept_10 (wh (fun k q => S_X11_keep_33 v_keptMany_7 v_thrown_8 v_kept_10 k q.1 q.2) N) l1_6 v_a_9 = some e_28 := hw
      unfold S_X11_keep_33 at hF
      refine gq_iload_n hC 1 dX11_keep_33 rfl rfl ?_
      refine gq_bipush hC (32 : Int32) dX11_keep_34 (by decide) ?_
      refine gq_icmp_ge hC 110 dX11_keep_36 (by decide) (fun hc_27 => ?_) (fun hc_27 => ?_)
      · have hF := (if_pos hc_27).symm.trans hF
        refine gq_sub [(0, .ref h_t_)] [0] rfl ?_
        cases hF
        exact hx0
      · have hF := (if_neg hc_27).symm.trans hF
        refine gq_aload_n hC 0 dX11_keep_39 rfl rfl ?_
        refine gq_get hC (kf := 0) 0 hin_X11 rfl rfl (by decide) hw_9 rfl dX11_keep_40 ?_
        refine gq_sipush hC (411 : Int32) dX11_keep_43 (by decide) ?_
        refine gq_iconst hC (2 : Int32) dX11_keep_46 (by decide) ?_
        refine gq_iload_n hC 1 dX11_keep_47 rfl rfl ?_
        refine gq_imul hC dX11_keep_48 ?_
        refine gq_iadd hC dX11_keep_49 ?_
        refine gq_iload_n hC 1 dX11_keep_50 rfl rfl ?_
        refine gq_aload_n hC 0 dX11_keep_51 rfl rfl ?_
        obtain ⟨r_24, hc_, hF⟩ := ob1_e hF
        refine gq_callVi hC [0, 1] [(h_t_, .inr (11, [.ref h_a, .ref h_fresh, .ref h_kept, .int v_keptMany_7, .int v_thrown_8, .ref h_buffer, .int v_buffered, .int v_size, .int v_at, .int v_behind, .int v_kind, .int v_wrong, .int v_wrongAt, .int v_errorAt, .long v_number, .ref h_worthFrom, .ref h_cutsFrom, .ref h_endFrom, .ref h_changes, .ref h_waysFrom, .int v_toCut, .int v_toLeave, .ref h_costAt, .ref h_places, .ref h_isCut, .ref h_written, .int v_writtenMany])), (h_a, .inl (cJ, 499, .inr (.inl v_a_9))), (h_kept, .inl (cJ, 3992, .inr (.inl v_kept_10)))] [] [.int l1_6, .int ((411 : Int32) + ((2 : Int32) * l1_6)), .ref h_a] (k_X11_many l D cI cJ cZ cO z h_t_ h_a h_fresh h_kept h_buffer h_worthFrom h_cutsFrom h_endFrom h_changes h_waysFrom h_costAt h_places h_isCut h_written v_keptMany_7 v_thrown_8 v_buffered v_size v_at v_behind v_kind v_wrong v_wrongAt v_errorAt v_number v_toCut v_toLeave v_writtenMany v_a_9 r_24 hc_) gX11_keep_X11_many rfl ⟨rfl, rfl⟩ hy_X11_many ⟨Nat.le_of_ble_eq_true rfl, Nat.le_of_ble_eq_true rfl⟩ rfl rfl rfl (q0 := 0) rfl rfl rfl (Nat.le_of_ble_eq_true rfl) rfl dX11_keep_52 rfl rfl ?_
        refine gq_icmp_ge hC 69 dX11_keep_55 (by decide) (fun hc_26 => ?_) (fun hc_26 => ?_)
        · have hF := (if_pos hc_26).symm.trans hF
          refine gq_lconst hC (0 : Int64) dX11_keep_69 (by decide) ?_
          exact jb70 l1_6 (0 : Int64) ((411 : Int32) + ((2 : Int32) * l1_6)) v_a_9 hF
        · have hF := (if_neg hc_26).symm.trans hF
          refine gq_aload_n hC 0 dX11_keep_58 rfl rfl ?_
          refine gq_iload_n hC 1 dX11_keep_59 rfl rfl ?_
          refine gq_bipush hC (11 : Int32) dX11_keep_60 (by decide) ?_
          obtain ⟨r_25, hc_, hF⟩ := ob1_e hF
          refine gq_callVi hC [0, 1] [(h_t_, .inr (11, [.ref h_a, .ref h_fresh, .ref h_kept, .int v_keptMany_7, .int v_thrown_8, .ref h_buffer, .int v_buffered, .int v_size, .int v_at, .int v_behind, .int v_kind, .int v_wrong, .int v_wrongAt, .int v_errorAt, .long v_number, .ref h_worthFrom, .ref h_cutsFrom, .ref h_endFrom, .ref h_changes, .ref h_waysFrom, .int v_toCut, .int v_toLeave, .ref h_costAt, .ref h_places, .ref h_isCut, .ref h_written, .int v_writtenMany])), (h_a, .inl (cJ, 499, .inr (.inl v_a_9))), (h_kept, .inl (cJ, 3992, .inr (.inl v_kept_10)))] [.int l1_6, .int (11 : Int32)] [.int ((411 : Int32) + ((2 : Int32) * l1_6)), .ref h_a] (k_X11_of l D cI cJ cZ cO z h_t_ h_a h_fresh h_kept h_buffer h_worthFrom h_cutsFrom h_endFrom h_changes h_waysFrom h_costAt h_places h_isCut h_written l1_6 (11 : Int32) v_keptMany_7 v_thrown_8 v_buffered v_size v_at v_behind v_kind v_wrong v_wrongAt v_errorAt v_number v_toCut v_toLeave v_writtenMany v_a_9 r_25 hc_) gX11_keep_X11_of rfl ⟨rfl, rfl⟩ hy_X11_of ⟨Nat.le_of_ble_eq_true rfl, Nat.le_of_ble_eq_true rfl⟩ rfl rfl rfl (q0 := 0) rfl rfl rfl (Nat.le_of_ble_eq_true rfl) rfl dX11_keep_62 rfl rfl ?_
          refine gq_i2l hC dX11_keep_65 ?_
          refine gq_goto hC 70 dX11_keep_66 (by decide) ?_
          exact jb70 l1_6 (r_25.toInt64) ((411 : Int32) + ((2 : Int32) * l1_6)) v_a_9 hF
  refine gq_sub [(0, .ref h_t_), (1, .int (0 : Int32))] [1, 0] rfl ?_
  obtain ⟨e_29, hw_, hF⟩ := ob1_e hF
  refine lp33 v_keptMany_1 (0 : Int32) v_kept_2 e_29 ?_ wF (0 : Int32) (vp_updL (vp_updL v_a (409 : Int32).toNatClampNeg (1 : Int64)) (410 : Int32).toNatClampNeg (r_4.toInt64)) hw_
  refine gq_aload_n hC 0 dX11_keep_110 rfl rfl ?_
  refine gq_aload_n hC 0 dX11_keep_111 rfl rfl ?_
  obtain ⟨r_30, hc_, hF⟩ := ob1_e hF
  refine gq_callVi hC [0, 1] [(h_t_, .inr (11, [.ref h_a, .ref h_fresh, .ref h_kept, .int v_keptMany_1, .int (0 : Int32), .ref h_buffer, .int v_buffered, .int v_size, .int v_at, .int v_behind, .int v_kind, .int v_wrong, .int v_wrongAt, .int v_errorAt, .long v_number, .ref h_worthFrom, .ref h_cutsFrom, .ref h_endFrom, .ref h_changes, .ref h_waysFrom, .int v_toCut, .int v_toLeave, .ref h_costAt, .ref h_places, .ref h_isCut, .ref h_written, .int v_writtenMany])), (h_a, .inl (cJ, 499, .inr (.inl e_29))), (h_kept, .inl (cJ, 3992, .inr (.inl v_kept_2)))] [] [.ref h_t_] (k_X11_many l D cI cJ cZ cO z h_t_ h_a h_fresh h_kept h_buffer h_worthFrom h_cutsFrom h_endFrom h_changes h_waysFrom h_costAt h_places h_isCut h_written v_keptMany_1 (0 : Int32) v_buffered v_size v_at v_behind v_kind v_wrong v_wrongAt v_errorAt v_number v_toCut v_toLeave v_writtenMany e_29 r_30 hc_) gX11_keep_X11_many rfl ⟨rfl, rfl⟩ hy_X11_many ⟨Nat.le_of_ble_eq_true rfl, Nat.le_of_ble_eq_true rfl⟩ rfl rfl rfl (q0 := 0) rfl rfl rfl (Nat.le_of_ble_eq_true rfl) rfl dX11_keep_112 rfl rfl ?_
  obtain ⟨r_31, hc_, hF⟩ := ob1_e hF
  refine gq_callVi hC [0, 1] [(h_t_, .inr (11, [.ref h_a, .ref h_fresh, .ref h_kept, .int v_keptMany_1, .int (0 : Int32), .ref h_buffer, .int v_buffered, .int v_size, .int v_at, .int v_behind, .int v_kind, .int v_wrong, .int v_wrongAt, .int v_errorAt, .long v_number, .ref h_worthFrom, .ref h_cutsFrom, .ref h_endFrom, .ref h_changes, .ref h_waysFrom, .int v_toCut, .int v_toLeave, .ref h_costAt, .ref h_places, .ref h_isCut, .ref h_written, .int v_writtenMany])), (h_a, .inl (cJ, 499, .inr (.inl e_29))), (h_kept, .inl (cJ, 3992, .inr (.inl v_kept_2)))] [.int r_30] [] (k_X11_spoken l D cI cJ cZ cO z h_t_ h_a h_fresh h_kept h_buffer h_worthFrom h_cutsFrom h_endFrom h_changes h_waysFrom h_costAt h_places h_isCut h_written r_30 v_keptMany_1 (0 : Int32) v_buffered v_size v_at v_behind v_kind v_wrong v_wrongAt v_errorAt v_number v_toCut v_toLeave v_writtenMany e_29 r_31 hc_) gX11_keep_X11_spoken rfl ⟨rfl, rfl⟩ hy_X11_spoken ⟨Nat.le_of_ble_eq_true rfl, Nat.le_of_ble_eq_true rfl⟩ rfl rfl rfl (q0 := 0) rfl rfl rfl (Nat.le_of_ble_eq_true rfl) rfl dX11_keep_115 rfl rfl ?_
  cases hF
  rw [hQ]
  exact gq_iret hC rfl dX11_keep_118
theorem hy_X11_keptTime : yX11_keptTime.cls = RX11 ∧ yX11_keptTime.cls ≠ "java/lang/invoke/MethodHandle" ∧ yX11_keptTime.cls ≠ "java/lang/invoke/VarHandle" ∧ (parseMethodDescriptor yX11_keptTime.desc).map (fun d => d.parameters.length) = some 0 := by decide +kernel
set_option maxRecDepth 20000 in
set_option maxHeartbeats 4000000 in
theorem k_X11_keptTime (l : Launch) (D : va_G) (cI cJ cZ cO : ClassId) (z : Nat → Nat)   (h_t_ : Nat) (h_a : Nat) (h_fresh : Nat) (h_kept : Nat) (h_buffer : Nat) (h_worthFrom : Nat) (h_cutsFrom : Nat) (h_endFrom : Nat) (h_changes : Nat) (h_waysFrom : Nat) (h_costAt : Nat) (h_places : Nat) (h_isCut : Nat) (h_written : Nat)  (v_keptMany : Int32) (v_thrown : Int32) (v_buffered : Int32) (v_size : Int32) (v_at : Int32) (v_behind : Int32) (v_kind : Int32) (v_wrong : Int32) (v_wrongAt : Int32) (v_errorAt : Int32) (v_number : Int64) (v_toCut : Int32) (v_toLeave : Int32) (v_writtenMany : Int32) (v_a : Nat → Int64) (r_ : Int32) (hF : F_X11_keptTime v_a = some r_) : Mi l yX11_keptTime wsX11_keptTime (rmD 0) D (gq_ty cI cJ cZ cO) z [.ref h_t_] [(h_t_, .inr (11, [.ref h_a, .ref h_fresh, .ref h_kept, .int v_keptMany, .int v_thrown, .ref h_buffer, .int v_buffered, .int v_size, .int v_at, .int v_behind, .int v_kind, .int v_wrong, .int v_wrongAt, .int v_errorAt, .long v_number, .ref h_worthFrom, .ref h_cutsFrom, .ref h_endFrom, .ref h_changes, .ref h_waysFrom, .int v_toCut, .int v_toLeave, .ref h_costAt, .ref h_places, .ref h_isCut, .ref h_written, .int v_writtenMany])), (h_a, .inl (cJ, 499, .inr (.inl v_a)))] r_ [(h_t_, .inr (11, [.ref h_a, .ref h_fresh, .ref h_kept, .int v_keptMany, .int v_thrown, .ref h_buffer, .int v_buffered, .int v_size, .int v_at, .int v_behind, .int v_kind, .int v_wrong, .int v_wrongAt, .int v_errorAt, .long v_number, .ref h_worthFrom, .ref h_cutsFrom, .ref h_endFrom, .ref h_changes, .ref h_waysFrom, .int v_toCut, .int v_toLeave, .ref h_costAt, .ref h_places, .ref h_isCut, .ref h_written, .int v_writtenMany])), (h_a, .inl (cJ, 499, .inr (.inl v_a)))] 0 0 := by
  refine Mi.of (cc := cX11_keptTime) (maxL := 3) (by decide) rfl (Nat.le_of_ble_eq_true rfl) ⟨Nat.le_refl 0, Nat.le_refl 0⟩ ?_
  intro p e s m args below meth c A hC ha
  have hin_X11 : ∀ w ∈ wsX110, w ∈ wsX11_keptTime := by decide +kernel
  have hw_9 : Cond.fieldLink RX11 9 (TX11 0).1 (TX11 0).2.1 (TX11 0).2.2.1 ∈ wsX11_keptTime := by decide +kernel
  obtain ⟨Q, hQ⟩ : ∃ Q, Q = gq_Qi below D A args s r_ [(h_t_, .inr (11, [.ref h_a, .ref h_fresh, .ref h_kept, .int v_keptMany, .int v_thrown, .ref h_buffer, .int v_buffered, .int v_size, .int v_at, .int v_behind, .int v_kind, .int v_wrong, .int v_wrongAt, .int v_errorAt, .long v_number, .ref h_worthFrom, .ref h_cutsFrom, .ref h_endFrom, .ref h_changes, .ref h_waysFrom, .int v_toCut, .int v_toLeave, .ref h_costAt, .ref h_places, .ref h_isCut, .ref h_written, .int v_writtenMany])), (h_a, .inl (cJ, 499, .inr (.inl v_a)))] 0 0 := ⟨_, rfl⟩
  rw [← hQ]
  refine gq_loc [(0, .ref h_t_)] rfl ?_
  unfold F_X11_keptTime at hF
  refine gq_iconst hC (0 : Int32) dX11_keptTime_0 (by decide) ?_
  refine gq_istore_n hC [(1, .int (0 : Int32)), (0, .ref h_t_)] dX11_keptTime_1 rfl (by decide) rfl ?_
  refine gq_iconst hC (0 : Int32) dX11_keptTime_2 (by decide) ?_
  refine gq_istore_n hC [(2, .int (0 : Int32)), (1, .int (0 : Int32)), (0, .ref h_t_)] dX11_keptTime_3 rfl (by decide) rfl ?_
  have lp4 : ∀ (e_6 : Int32), Gx p l e (rmD 0) s m args below meth c D A 3 Q 0 0 42 [(1, .int e_6)] [] [(h_t_, .inr (11, [.ref h_a, .ref h_fresh, .ref h_kept, .int v_keptMany, .int v_thrown, .ref h_buffer, .int v_buffered, .int v_size, .int v_at, .int v_behind, .int v_kind, .int v_wrong, .int v_wrongAt, .int v_errorAt, .long v_number, .ref h_worthFrom, .ref h_cutsFrom, .ref h_endFrom, .ref h_changes, .ref h_waysFrom, .int v_toCut, .int v_toLeave, .ref h_costAt, .ref h_places, .ref h_isCut, .ref h_written, .int v_writtenMany])), (h_a, .inl (cJ, 499, .inr (.inl v_a)))] → ∀ (N : Nat) (l1_1 : Int32) (l2_2 : Int32), wh (fun k q => S_X11_keptTime_4 v_a k q.1 q.2) N (l1_1, l2_2) = some e_6 → Gx p l e (rmD 0) s m args below meth c D A 3 Q 0 0 4 [(0, .ref h_t_), (1, .int l1_1), (2, .int l2_2)] [] [(h_t_, .inr (11, [.ref h_a, .ref h_fresh, .ref h_kept, .int v_keptMany, .int v_thrown, .ref h_buffer, .int v_buffered, .int v_size, .int v_at, .int v_behind, .int v_kind, .int v_wrong, .int v_wrongAt, .int v_errorAt, .long v_number, .ref h_worthFrom, .ref h_cutsFrom, .ref h_endFrom, .ref h_changes, .ref h_waysFrom, .int v_toCut, .int v_toLeave, .ref h_costAt, .ref h_places, .ref h_isCut, .ref h_written, .int v_writtenMany])), (h_a, .inl (cJ, 499, .inr (.inl v_a)))] := by
    intro e_6 hx0 N
    induction N with
    | zero => intro l1_1 l2_2 hw; exact absurd hw (wh_0 _ _ _)
    | succ N ih =>
      intro l1_1 l2_2 hw
      have hF : S_X11_keptTime_4 v_a (wh (fun k q => S_X11_keptTime_4 v_a k q.1 q.2) N) l1_1 l2_2 = some e_6 := hw
      unfold S_X11_keptTime_4 at hF
      refine gq_iload_n hC 2 dX11_keptTime_4 rfl rfl ?_
      refine gq_i2l hC dX11_keptTime_5 ?_
      refine gq_aload_n hC 0 dX11_keptTime_6 rfl rfl ?_
      refine gq_get hC (kf := 0) 0 hin_X11 rfl rfl (by decide) hw_9 rfl dX11_keptTime_7 ?_
      refine gq_sipush hC (410 : Int32) dX11_keptTime_10 (by decide) ?_
      obtain ⟨hi_3, hF⟩ := gi_e hF
      refine gq_lald hC 1 1 rfl rfl hi_3 dX11_keptTime_13 ?_
      refine gq_lcmp hC dX11_keptTime_14 ?_
      refine gq_if_ge hC 42 dX11_keptTime_15 (by decide) (fun hc_5 => ?_) (fun hc_5 => ?_)
      · have hF := (if_pos hc_5).symm.trans hF
        refine gq_sub [(1, .int l1_1)] [1] rfl ?_
        cases hF
        exact hx0
      · have hF := (if_neg hc_5).symm.trans hF
        refine gq_iload_n hC 1 dX11_keptTime_18 rfl rfl ?_
        refine gq_aload_n hC 0 dX11_keptTime_19 rfl rfl ?_
        refine gq_get hC (kf := 0) 0 hin_X11 rfl rfl (by decide) hw_9 rfl dX11_keptTime_20 ?_
        refine gq_sipush hC (411 : Int32) dX11_keptTime_23 (by decide) ?_
        refine gq_iconst hC (2 : Int32) dX11_keptTime_26 (by decide) ?_
        refine gq_iload_n hC 2 dX11_keptTime_27 rfl rfl ?_
        refine gq_imul hC dX11_keptTime_28 ?_
        refine gq_iadd hC dX11_keptTime_29 ?_
        refine gq_iconst hC (1 : Int32) dX11_keptTime_30 (by decide) ?_
        refine gq_iadd hC dX11_keptTime_31 ?_
        obtain ⟨hi_4, hF⟩ := gi_e hF
        refine gq_lald hC 1 1 rfl rfl hi_4 dX11_keptTime_32 ?_
        refine gq_l2i hC dX11_keptTime_33 ?_
        refine gq_iadd hC dX11_keptTime_34 ?_
        refine gq_istore_n hC [(1, .int (l1_1 + ((v_a (((411 : Int32) + ((2 : Int32) * l2_2)) + (1 : Int32)).toNatClampNeg).toInt32))), (0, .ref h_t_), (2, .int l2_2)] dX11_keptTime_35 rfl (by decide) rfl ?_
        refine gq_iinc hC 2 (l2_2 + (1 : Int32)) [(2, .int (l2_2 + (1 : Int32))), (1, .int (l1_1 + ((v_a (((411 : Int32) + ((2 : Int32) * l2_2)) + (1 : Int32)).toNatClampNeg).toInt32))), (0, .ref h_t_)] dX11_keptTime_36 rfl rfl (by decide) rfl ?_
        refine gq_goto hC 4 dX11_keptTime_39 (by decide) ?_
        refine gq_sub [(0, .ref h_t_), (1, .int (l1_1 + ((v_a (((411 : Int32) + ((2 : Int32) * l2_2)) + (1 : Int32)).toNatClampNeg).toInt32))), (2, .int (l2_2 + (1 : Int32)))] [2, 1, 0] rfl ?_
        exact ih (l1_1 + ((v_a (((411 : Int32) + ((2 : Int32) * l2_2)) + (1 : Int32)).toNatClampNeg).toInt32)) (l2_2 + (1 : Int32)) hF
  refine gq_sub [(0, .ref h_t_), (1, .int (0 : Int32)), (2, .int (0 : Int32))] [2, 1, 0] rfl ?_
  obtain ⟨e_7, hw_, hF⟩ := ob1_e hF
  refine lp4  e_7 ?_ wF (0 : Int32) (0 : Int32) hw_
  refine gq_iload_n hC 0 dX11_keptTime_42 rfl rfl ?_
  cases hF
  rw [hQ]
  exact gq_iret hC rfl dX11_keptTime_43
theorem hy_X11_nowAt : yX11_nowAt.cls = RX11 ∧ yX11_nowAt.cls ≠ "java/lang/invoke/MethodHandle" ∧ yX11_nowAt.cls ≠ "java/lang/invoke/VarHandle" ∧ (parseMethodDescriptor yX11_nowAt.desc).map (fun d => d.parameters.length) = some 1 := by decide +kernel
set_option maxRecDepth 20000 in
set_option maxHeartbeats 4000000 in
theorem k_X11_nowAt (l : Launch) (D : va_G) (cI cJ cZ cO : ClassId) (z : Nat → Nat)   (h_t_ : Nat) (h_a : Nat) (h_fresh : Nat) (h_kept : Nat) (h_buffer : Nat) (h_worthFrom : Nat) (h_cutsFrom : Nat) (h_endFrom : Nat) (h_changes : Nat) (h_waysFrom : Nat) (h_costAt : Nat) (h_places : Nat) (h_isCut : Nat) (h_written : Nat) (x1 : Int32) (v_keptMany : Int32) (v_thrown : Int32) (v_buffered : Int32) (v_size : Int32) (v_at : Int32) (v_behind : Int32) (v_kind : Int32) (v_wrong : Int32) (v_wrongAt : Int32) (v_errorAt : Int32) (v_number : Int64) (v_toCut : Int32) (v_toLeave : Int32) (v_writtenMany : Int32) (v_a : Nat → Int64) (r_ : Int32) (hF : F_X11_nowAt x1 v_a = some r_) : Mi l yX11_nowAt wsX11_nowAt (rmD 1) D (gq_ty cI cJ cZ cO) z [.ref h_t_, .int x1] [(h_t_, .inr (11, [.ref h_a, .ref h_fresh, .ref h_kept, .int v_keptMany, .int v_thrown, .ref h_buffer, .int v_buffered, .int v_size, .int v_at, .int v_behind, .int v_kind, .int v_wrong, .int v_wrongAt, .int v_errorAt, .long v_number, .ref h_worthFrom, .ref h_cutsFrom, .ref h_endFrom, .ref h_changes, .ref h_waysFrom, .int v_toCut, .int v_toLeave, .ref h_costAt, .ref h_places, .ref h_isCut, .ref h_written, .int v_writtenMany])), (h_a, .inl (cJ, 499, .inr (.inl v_a)))] r_ [(h_t_, .inr (11, [.ref h_a, .ref h_fresh, .ref h_kept, .int v_keptMany, .int v_thrown, .ref h_buffer, .int v_buffered, .int v_size, .int v_at, .int v_behind, .int v_kind, .int v_wrong, .int v_wrongAt, .int v_errorAt, .long v_number, .ref h_worthFrom, .ref h_cutsFrom, .ref h_endFrom, .ref h_changes, .ref h_waysFrom, .int v_toCut, .int v_toLeave, .ref h_costAt, .ref h_places, .ref h_isCut, .ref h_written, .int v_writtenMany])), (h_a, .inl (cJ, 499, .inr (.inl v_a)))] 0 0 := by
  refine Mi.of (cc := cX11_nowAt) (maxL := 3) (by decide) rfl (Nat.le_of_ble_eq_true rfl) ⟨Nat.le_refl 0, Nat.le_refl 0⟩ ?_
  intro p e s m args below meth c A hC ha
  have hin_X11 : ∀ w ∈ wsX110, w ∈ wsX11_nowAt := by decide +kernel
  have hw_9 : Cond.fieldLink RX11 9 (TX11 0).1 (TX11 0).2.1 (TX11 0).2.2.1 ∈ wsX11_nowAt := by decide +kernel
  obtain ⟨Q, hQ⟩ : ∃ Q, Q = gq_Qi below D A args s r_ [(h_t_, .inr (11, [.ref h_a, .ref h_fresh, .ref h_kept, .int v_keptMany, .int v_thrown, .ref h_buffer, .int v_buffered, .int v_size, .int v_at, .int v_behind, .int v_kind, .int v_wrong, .int v_wrongAt, .int v_errorAt, .long v_number, .ref h_worthFrom, .ref h_cutsFrom, .ref h_endFrom, .ref h_changes, .ref h_waysFrom, .int v_toCut, .int v_toLeave, .ref h_costAt, .ref h_places, .ref h_isCut, .ref h_written, .int v_writtenMany])), (h_a, .inl (cJ, 499, .inr (.inl v_a)))] 0 0 := ⟨_, rfl⟩
  rw [← hQ]
  refine gq_loc [(0, .ref h_t_), (1, .int x1)] rfl ?_
  unfold F_X11_nowAt at hF
  refine gq_iconst hC (0 : Int32) dX11_nowAt_0 (by decide) ?_
  refine gq_istore_n hC [(2, .int (0 : Int32)), (0, .ref h_t_), (1, .int x1)] dX11_nowAt_1 rfl (by decide) rfl ?_
  have lp2 : ∀ (out_ : (Int32) ⊕ (Unit)), (∀ (e_7 : Int32), out_ = .inl e_7 → Gx p l e (rmD 1) s m args below meth c D A 3 Q 0 0 34 [(2, .int e_7)] [] [(h_t_, .inr (11, [.ref h_a, .ref h_fresh, .ref h_kept, .int v_keptMany, .int v_thrown, .ref h_buffer, .int v_buffered, .int v_size, .int v_at, .int v_behind, .int v_kind, .int v_wrong, .int v_wrongAt, .int v_errorAt, .long v_number, .ref h_worthFrom, .ref h_cutsFrom, .ref h_endFrom, .ref h_changes, .ref h_waysFrom, .int v_toCut, .int v_toLeave, .ref h_costAt, .ref h_places, .ref h_isCut, .ref h_written, .int v_writtenMany])), (h_a, .inl (cJ, 499, .inr (.inl v_a)))]) → (out_ = .inr () → Gx p l e (rmD 1) s m args below meth c D A 3 Q 0 0 42 [] [] [(h_t_, .inr (11, [.ref h_a, .ref h_fresh, .ref h_kept, .int v_keptMany, .int v_thrown, .ref h_buffer, .int v_buffered, .int v_size, .int v_at, .int v_behind, .int v_kind, .int v_wrong, .int v_wrongAt, .int v_errorAt, .long v_number, .ref h_worthFrom, .ref h_cutsFrom, .ref h_endFrom, .ref h_changes, .ref h_waysFrom, .int v_toCut, .int v_toLeave, .ref h_costAt, .ref h_places, .ref h_isCut, .ref h_written, .int v_writtenMany])), (h_a, .inl (cJ, 499, .inr (.inl v_a)))]) → ∀ (N : Nat) (l2_1 : Int32), wh (fun k q => S_X11_nowAt_2 x1 v_a k q) N l2_1 = some out_ → Gx p l e (rmD 1) s m args below meth c D A 3 Q 0 0 2 [(0, .ref h_t_), (1, .int x1), (2, .int l2_1)] [] [(h_t_, .inr (11, [.ref h_a, .ref h_fresh, .ref h_kept, .int v_keptMany, .int v_thrown, .ref h_buffer, .int v_buffered, .int v_size, .int v_at, .int v_behind, .int v_kind, .int v_wrong, .int v_wrongAt, .int v_errorAt, .long v_number, .ref h_worthFrom, .ref h_cutsFrom, .ref h_endFrom, .ref h_changes, .ref h_waysFrom, .int v_toCut, .int v_toLeave, .ref h_costAt, .ref h_places, .ref h_isCut, .ref h_written, .int v_writtenMany])), (h_a, .inl (cJ, 499, .inr (.inl v_a)))] := by
    intro out_ hx0 hx1 N
    induction N with
    | zero => intro l2_1 hw; exact absurd hw (wh_0 _ _ _)
    | succ N ih =>
      intro l2_1 hw
      have hF : S_X11_nowAt_2 x1 v_a (wh (fun k q => S_X11_nowAt_2 x1 v_a k q) N) l2_1 = some out_ := hw
      unfold S_X11_nowAt_2 at hF
      refine gq_iload_n hC 2 dX11_nowAt_2 rfl rfl ?_
      refine gq_aload_n hC 0 dX11_nowAt_3 rfl rfl ?_
      obtain ⟨r_2, hc_, hF⟩ := ob1_e hF
      refine gq_callVi hC [0, 1] [(h_t_, .inr (11, [.ref h_a, .ref h_fresh, .ref h_kept, .int v_keptMany, .int v_thrown, .ref h_buffer, .int v_buffered, .int v_size, .int v_at, .int v_behind, .int v_kind, .int v_wrong, .int v_wrongAt, .int v_errorAt, .long v_number, .ref h_worthFrom, .ref h_cutsFrom, .ref h_endFrom, .ref h_changes, .ref h_waysFrom, .int v_toCut, .int v_toLeave, .ref h_costAt, .ref h_places, .ref h_isCut, .ref h_written, .int v_writtenMany])), (h_a, .inl (cJ, 499, .inr (.inl v_a)))] [] [.int l2_1] (k_X11_many l D cI cJ cZ cO z h_t_ h_a h_fresh h_kept h_buffer h_worthFrom h_cutsFrom h_endFrom h_changes h_waysFrom h_costAt h_places h_isCut h_written v_keptMany v_thrown v_buffered v_size v_at v_behind v_kind v_wrong v_wrongAt v_errorAt v_number v_toCut v_toLeave v_writtenMany v_a r_2 hc_) gX11_nowAt_X11_many rfl ⟨rfl, rfl⟩ hy_X11_many ⟨Nat.le_of_ble_eq_true rfl, Nat.le_of_ble_eq_true rfl⟩ rfl rfl rfl (q0 := 0) rfl rfl rfl (Nat.le_of_ble_eq_true rfl) rfl dX11_nowAt_4 rfl rfl ?_
      refine gq_icmp_ge hC 42 dX11_nowAt_7 (by decide) (fun hc_6 => ?_) (fun hc_6 => ?_)
      · have hF := (if_pos hc_6).symm.trans hF
        refine gq_sub [] [] rfl ?_
        exact hx1  (Option.some.inj hF).symm
      · have hF := (if_neg hc_6).symm.trans hF
        refine gq_aload_n hC 0 dX11_nowAt_10 rfl rfl ?_
        refine gq_iload_n hC 2 dX11_nowAt_11 rfl rfl ?_
        refine gq_bipush hC (11 : Int32) dX11_nowAt_12 (by decide) ?_
        obtain ⟨r_3, hc_, hF⟩ := ob1_e hF
        refine gq_callVi hC [0, 1] [(h_t_, .inr (11, [.ref h_a, .ref h_fresh, .ref h_kept, .int v_keptMany, .int v_thrown, .ref h_buffer, .int v_buffered, .int v_size, .int v_at, .int v_behind, .int v_kind, .int v_wrong, .int v_wrongAt, .int v_errorAt, .long v_number, .ref h_worthFrom, .ref h_cutsFrom, .ref h_endFrom, .ref h_changes, .ref h_waysFrom, .int v_toCut, .int v_toLeave, .ref h_costAt, .ref h_places, .ref h_isCut, .ref h_written, .int v_writtenMany])), (h_a, .inl (cJ, 499, .inr (.inl v_a)))] [.int l2_1, .int (11 : Int32)] [] (k_X11_of l D cI cJ cZ cO z h_t_ h_a h_fresh h_kept h_buffer h_worthFrom h_cutsFrom h_endFrom h_changes h_waysFrom h_costAt h_places h_isCut h_written l2_1 (11 : Int32) v_keptMany v_thrown v_buffered v_size v_at v_behind v_kind v_wrong v_wrongAt v_errorAt v_number v_toCut v_toLeave v_writtenMany v_a r_3 hc_) gX11_nowAt_X11_of rfl ⟨rfl, rfl⟩ hy_X11_of ⟨Nat.le_of_ble_eq_true rfl, Nat.le_of_ble_eq_true rfl⟩ rfl rfl rfl (q0 := 0) rfl rfl rfl (Nat.le_of_ble_eq_true rfl) rfl dX11_nowAt_14 rfl rfl ?_
        refine gq_i2l hC dX11_nowAt_17 ?_
        refine gq_aload_n hC 0 dX11_nowAt_18 rfl rfl ?_
        refine gq_get hC (kf := 0) 0 hin_X11 rfl rfl (by decide) hw_9 rfl dX11_nowAt_19 ?_
        refine gq_sipush hC (411 : Int32) dX11_nowAt_22 (by decide) ?_
        refine gq_iconst hC (2 : Int32) dX11_nowAt_25 (by decide) ?_
        refine gq_iload_n hC 1 dX11_nowAt_26 rfl rfl ?_
        refine gq_imul hC dX11_nowAt_27 ?_
        refine gq_iadd hC dX11_nowAt_28 ?_
        obtain ⟨hi_4, hF⟩ := gi_e hF
        refine gq_lald hC 1 1 rfl rfl hi_4 dX11_nowAt_29 ?_
        refine gq_lcmp hC dX11_nowAt_30 ?_
        refine gq_if_ne hC 36 dX11_nowAt_31 (by decide) (fun hc_5 => ?_) (fun hc_5 => ?_)
        · have hF := (if_neg hc_5).symm.trans hF
          refine gq_iinc hC 2 (l2_1 + (1 : Int32)) [(2, .int (l2_1 + (1 : Int32))), (0, .ref h_t_), (1, .int x1)] dX11_nowAt_36 rfl rfl (by decide) rfl ?_
          refine gq_goto hC 2 dX11_nowAt_39 (by decide) ?_
          refine gq_sub [(0, .ref h_t_), (1, .int x1), (2, .int (l2_1 + (1 : Int32)))] [1, 2, 0] rfl ?_
          exact ih (l2_1 + (1 : Int32)) hF
        · have hF := (if_pos hc_5).symm.trans hF
          refine gq_sub [(2, .int l2_1)] [2] rfl ?_
          exact hx0 _ (Option.some.inj hF).symm
  refine gq_sub [(0, .ref h_t_), (1, .int x1), (2, .int (0 : Int32))] [1, 2, 0] rfl ?_
  obtain ⟨o_, hw_, hF⟩ := ob1_e hF
  refine lp2  o_ ?_ ?_ wF (0 : Int32) hw_
  · intro e_8 ho_9
    subst ho_9
    have hF : (some e_8) = some _ := hF
    refine gq_iload_n hC 0 dX11_nowAt_34 rfl rfl ?_
    cases hF
    rw [hQ]
    exact gq_iret hC rfl dX11_nowAt_35
  · intro  ho_10
    subst ho_10
    have hF : (some (-1 : Int32)) = some _ := hF
    refine gq_iconst hC (-1 : Int32) dX11_nowAt_42 (by decide) ?_
    cases hF
    rw [hQ]
    exact gq_iret hC rfl dX11_nowAt_43
theorem hy_X11_carried : yX11_carried.cls = RX11 ∧ yX11_carried.cls ≠ "java/lang/invoke/MethodHandle" ∧ yX11_carried.cls ≠ "java/lang/invoke/VarHandle" ∧ (parseMethodDescriptor yX11_carried.desc).map (fun d => d.parameters.length) = some 1 := by decide +kernel
set_option maxRecDepth 20000 in
set_option maxHeartbeats 4000000 in
theorem k_X11_carried (l : Launch) (D : va_G) (cI cJ cZ cO : ClassId) (z : Nat → Nat)   (h_t_ : Nat) (h_a : Nat) (h_fresh : Nat) (h_kept : Nat) (h_buffer : Nat) (h_worthFrom : Nat) (h_cutsFrom : Nat) (h_endFrom : Nat) (h_changes : Nat) (h_waysFrom : Nat) (h_costAt : Nat) (h_places : Nat) (h_isCut : Nat) (h_written : Nat) (x1 : Int32) (v_keptMany : Int32) (v_thrown : Int32) (v_buffered : Int32) (v_size : Int32) (v_at : Int32) (v_behind : Int32) (v_kind : Int32) (v_wrong : Int32) (v_wrongAt : Int32) (v_errorAt : Int32) (v_number : Int64) (v_toCut : Int32) (v_toLeave : Int32) (v_writtenMany : Int32) (v_a : Nat → Int64) (r_ : Int32) (w_thrown : Int32) (hF : F_X11_carried x1 v_thrown v_a = some (r_, w_thrown)) : Mi l yX11_carried wsX11_carried (rmD 2) D (gq_ty cI cJ cZ cO) z [.ref h_t_, .int x1] [(h_t_, .inr (11, [.ref h_a, .ref h_fresh, .ref h_kept, .int v_keptMany, .int v_thrown, .ref h_buffer, .int v_buffered, .int v_size, .int v_at, .int v_behind, .int v_kind, .int v_wrong, .int v_wrongAt, .int v_errorAt, .long v_number, .ref h_worthFrom, .ref h_cutsFrom, .ref h_endFrom, .ref h_changes, .ref h_waysFrom, .int v_toCut, .int v_toLeave, .ref h_costAt, .ref h_places, .ref h_isCut, .ref h_written, .int v_writtenMany])), (h_a, .inl (cJ, 499, .inr (.inl v_a)))] r_ [(h_t_, .inr (11, [.ref h_a, .ref h_fresh, .ref h_kept, .int v_keptMany, .int w_thrown, .ref h_buffer, .int v_buffered, .int v_size, .int v_at, .int v_behind, .int v_kind, .int v_wrong, .int v_wrongAt, .int v_errorAt, .long v_number, .ref h_worthFrom, .ref h_cutsFrom, .ref h_endFrom, .ref h_changes, .ref h_waysFrom, .int v_toCut, .int v_toLeave, .ref h_costAt, .ref h_places, .ref h_isCut, .ref h_written, .int v_writtenMany])), (h_a, .inl (cJ, 499, .inr (.inl v_a)))] 0 0 := by
  refine Mi.of (cc := cX11_carried) (maxL := 6) (by decide) rfl (Nat.le_of_ble_eq_true rfl) ⟨Nat.le_refl 0, Nat.le_refl 0⟩ ?_
  intro p e s m args below meth c A hC ha
  have hin_X11 : ∀ w ∈ wsX110, w ∈ wsX11_carried := by decide +kernel
  have hw_9 : Cond.fieldLink RX11 9 (TX11 0).1 (TX11 0).2.1 (TX11 0).2.2.1 ∈ wsX11_carried := by decide +kernel
  have hw_79 : Cond.fieldLink RX11 79 (TX11 4).1 (TX11 4).2.1 (TX11 4).2.2.1 ∈ wsX11_carried := by decide +kernel
  obtain ⟨Q, hQ⟩ : ∃ Q, Q = gq_Qi below D A args s r_ [(h_t_, .inr (11, [.ref h_a, .ref h_fresh, .ref h_kept, .int v_keptMany, .int w_thrown, .ref h_buffer, .int v_buffered, .int v_size, .int v_at, .int v_behind, .int v_kind, .int v_wrong, .int v_wrongAt, .int v_errorAt, .long v_number, .ref h_worthFrom, .ref h_cutsFrom, .ref h_endFrom, .ref h_changes, .ref h_waysFrom, .int v_toCut, .int v_toLeave, .ref h_costAt, .ref h_places, .ref h_isCut, .ref h_written, .int v_writtenMany])), (h_a, .inl (cJ, 499, .inr (.inl v_a)))] 0 0 := ⟨_, rfl⟩
  rw [← hQ]
  refine gq_loc [(0, .ref h_t_), (1, .int x1)] rfl ?_
  have jb39 : ∀ (st_1 : Int32) (v_thrown_2 : Int32), F_X11_carried_b39 x1 st_1 v_thrown_2 v_a = some (r_, w_thrown) → Gx p l e (rmD 2) s m args below meth c D A 6 Q 0 0 39 [(0, .ref h_t_), (1, .int x1)] [.int st_1, .ref h_t_] [(h_t_, .inr (11, [.ref h_a, .ref h_fresh, .ref h_kept, .int v_keptMany, .int v_thrown_2, .ref h_buffer, .int v_buffered, .int v_size, .int v_at, .int v_behind, .int v_kind, .int v_wrong, .int v_wrongAt, .int v_errorAt, .long v_number, .ref h_worthFrom, .ref h_cutsFrom, .ref h_endFrom, .ref h_changes, .ref h_waysFrom, .int v_toCut, .int v_toLeave, .ref h_costAt, .ref h_places, .ref h_isCut, .ref h_written, .int v_writtenMany])), (h_a, .inl (cJ, 499, .inr (.inl v_a)))] := by
    intro st_1 v_thrown_2 hF
    unfold F_X11_carried_b39 at hF
    refine gq_put1 hC (kf := 4) 0 [(h_t_, .inr (11, [.ref h_a, .ref h_fresh, .ref h_kept, .int v_keptMany, .int st_1, .ref h_buffer, .int v_buffered, .int v_size, .int v_at, .int v_behind, .int v_kind, .int v_wrong, .int v_wrongAt, .int v_errorAt, .long v_number, .ref h_worthFrom, .ref h_cutsFrom, .ref h_endFrom, .ref h_changes, .ref h_waysFrom, .int v_toCut, .int v_toLeave, .ref h_costAt, .ref h_places, .ref h_isCut, .ref h_written, .int v_writtenMany])), (h_a, .inl (cJ, 499, .inr (.inl v_a)))] tyX11 tyX11_ok nmX11 hin_X11 rfl rfl (by decide) hw_79 rfl rfl rfl (Nat.le_of_ble_eq_true rfl) dX11_carried_39 rfl ?_
    refine gq_aload_n hC 0 dX11_carried_42 rfl rfl ?_
    refine gq_get hC (kf := 4) 0 hin_X11 rfl rfl (by decide) hw_79 rfl dX11_carried_43 ?_
    refine gq_if_le hC 51 dX11_carried_46 (by decide) (fun hc_33 => ?_) (fun hc_33 => ?_)
    · have hF := (if_pos hc_33).symm.trans hF
      refine gq_iconst hC (0 : Int32) dX11_carried_51 (by decide) ?_
      refine gq_istore_n hC [(2, .int (0 : Int32)), (0, .ref h_t_), (1, .int x1)] dX11_carried_52 rfl (by decide) rfl ?_
      refine gq_iload_n hC 2 dX11_carried_53 rfl rfl ?_
      refine gq_istore_n hC [(3, .int x1), (2, .int (0 : Int32)), (0, .ref h_t_), (1, .int x1)] dX11_carried_54 rfl (by decide) rfl ?_
      have lp55 : ∀ (v_thrown_5 : Int32), ∀ (e_9 : Int32) (e_10 : Int32), Gx p l e (rmD 2) s m args below meth c D A 6 Q 0 0 99 [(0, .ref h_t_), (2, .int e_9), (3, .int e_10)] [] [(h_t_, .inr (11, [.ref h_a, .ref h_fresh, .ref h_kept, .int v_keptMany, .int v_thrown_5, .ref h_buffer, .int v_buffered, .int v_size, .int v_at, .int v_behind, .int v_kind, .int v_wrong, .int v_wrongAt, .int v_errorAt, .long v_number, .ref h_worthFrom, .ref h_cutsFrom, .ref h_endFrom, .ref h_changes, .ref h_waysFrom, .int v_toCut, .int v_toLeave, .ref h_costAt, .ref h_places, .ref h_isCut, .ref h_written, .int v_writtenMany])), (h_a, .inl (cJ, 499, .inr (.inl v_a)))] → ∀ (N : Nat) (l2_3 : Int32) (l3_4 : Int32), wh (fun k q => S_X11_carried_55 v_thrown_5 v_a k q.1 q.2) N (l2_3, l3_4) = some (e_9, e_10) → Gx p l e (rmD 2) s m args below meth c D A 6 Q 0 0 55 [(0, .ref h_t_), (2, .int l2_3), (3, .int l3_4)] [] [(h_t_, .inr (11, [.ref h_a, .ref h_fresh, .ref h_kept, .int v_keptMany, .int v_thrown_5, .ref h_buffer, .int v_buffered, .int v_size, .int v_at, .int v_behind, .int v_kind, .int v_wrong, .int v_wrongAt, .int v_errorAt, .long v_number, .ref h_worthFrom, .ref h_cutsFrom, .ref h_endFrom, .ref h_changes, .ref h_waysFrom, .int v_toCut, .int v_toLeave, .ref h_costAt, .ref h_places, .ref h_isCut, .ref h_written, .int v_writtenMany])), (h_a, .inl (cJ, 499, .inr (.inl v_a)))] := by
        intro v_thrown_5 e_9 e_10 hx0 N
        induction N with
        | zero => intro l2_3 l3_4 hw; exact absurd hw (wh_0 _ _ _)
        | succ N ih =>
          intro l2_3 l3_4 hw
          have hF : S_X11_carried_55 v_thrown_5 v_a (wh (fun k q => S_X11_carried_55 v_thrown_5 v_a k q.1 q.2) N) l2_3 l3_4 = some (e_9, e_10) := hw
          unfold S_X11_carried_55 at hF
          refine gq_iload_n hC 2 dX11_carried_55 rfl rfl ?_
          refine gq_i2l hC dX11_carried_56 ?_
          refine gq_aload_n hC 0 dX11_carried_57 rfl rfl ?_
          refine gq_get hC (kf := 0) 0 hin_X11 rfl rfl (by decide) hw_9 rfl dX11_carried_58 ?_
          refine gq_sipush hC (411 : Int32) dX11_carried_61 (by decide) ?_
          refine gq_iconst hC (2 : Int32) dX11_carried_64 (by decide) ?_
          refine gq_iload_n hC 1 dX11_carried_65 rfl rfl ?_
          refine gq_imul hC dX11_carried_66 ?_
          refine gq_iadd hC dX11_carried_67 ?_
          refine gq_iconst hC (1 : Int32) dX11_carried_68 (by decide) ?_
          refine gq_iadd hC dX11_carried_69 ?_
          obtain ⟨hi_6, hF⟩ := gi_e hF
          refine gq_lald hC 1 1 rfl rfl hi_6 dX11_carried_70 ?_
          refine gq_lcmp hC dX11_carried_71 ?_
          refine gq_if_lt hC 99 dX11_carried_72 (by decide) (fun hc_8 => ?_) (fun hc_8 => ?_)
          · have hF := (if_pos hc_8).symm.trans hF
            cases hF
            exact hx0
          · have hF := (if_neg hc_8).symm.trans hF
            refine gq_iload_n hC 2 dX11_carried_75 rfl rfl ?_
            refine gq_aload_n hC 0 dX11_carried_76 rfl rfl ?_
            refine gq_get hC (kf := 0) 0 hin_X11 rfl rfl (by decide) hw_9 rfl dX11_carried_77 ?_
            refine gq_sipush hC (411 : Int32) dX11_carried_80 (by decide) ?_
            refine gq_iconst hC (2 : Int32) dX11_carried_83 (by decide) ?_
            refine gq_iload_n hC 1 dX11_carried_84 rfl rfl ?_
            refine gq_imul hC dX11_carried_85 ?_
            refine gq_iadd hC dX11_carried_86 ?_
            refine gq_iconst hC (1 : Int32) dX11_carried_87 (by decide) ?_
            refine gq_iadd hC dX11_carried_88 ?_
            obtain ⟨hi_7, hF⟩ := gi_e hF
            refine gq_lald hC 1 1 rfl rfl hi_7 dX11_carried_89 ?_
            refine gq_l2i hC dX11_carried_90 ?_
            refine gq_isub hC dX11_carried_91 ?_
            refine gq_istore_n hC [(3, .int (l3_4 - ((v_a (((411 : Int32) + ((2 : Int32) * l2_3)) + (1 : Int32)).toNatClampNeg).toInt32))), (0, .ref h_t_), (2, .int l2_3)] dX11_carried_92 rfl (by decide) rfl ?_
            refine gq_iinc hC 2 (l2_3 + (1 : Int32)) [(2, .int (l2_3 + (1 : Int32))), (3, .int (l3_4 - ((v_a (((411 : Int32) + ((2 : Int32) * l2_3)) + (1 : Int32)).toNatClampNeg).toInt32))), (0, .ref h_t_)] dX11_carried_93 rfl rfl (by decide) rfl ?_
            refine gq_goto hC 55 dX11_carried_96 (by decide) ?_
            refine gq_sub [(0, .ref h_t_), (2, .int (l2_3 + (1 : Int32))), (3, .int (l3_4 - ((v_a (((411 : Int32) + ((2 : Int32) * l2_3)) + (1 : Int32)).toNatClampNeg).toInt32)))] [2, 0, 1] rfl ?_
            exact ih (l2_3 + (1 : Int32)) (l3_4 - ((v_a (((411 : Int32) + ((2 : Int32) * l2_3)) + (1 : Int32)).toNatClampNeg).toInt32)) hF
      refine gq_sub [(0, .ref h_t_), (2, .int (0 : Int32)), (3, .int x1)] [2, 1, 0] rfl ?_
      obtain ⟨e_11, e_12, hw_, hF⟩ := ob2_e hF
      refine lp55 st_1 e_11 e_12 ?_ wF (0 : Int32) x1 hw_
      refine gq_aload_n hC 0 dX11_carried_99 rfl rfl ?_
      refine gq_iload_n hC 1 dX11_carried_100 rfl rfl ?_
      obtain ⟨r_13, hc_, hF⟩ := ob1_e hF
      refine gq_callVi hC [0, 1] [(h_t_, .inr (11, [.ref h_a, .ref h_fresh, .ref h_kept, .int v_keptMany, .int st_1, .ref h_buffer, .int v_buffered, .int v_size, .int v_at, .int v_behind, .int v_kind, .int v_wrong, .int v_wrongAt, .int v_errorAt, .long v_number, .ref h_worthFrom, .ref h_cutsFrom, .ref h_endFrom, .ref h_changes, .ref h_waysFrom, .int v_toCut, .int v_toLeave, .ref h_costAt, .ref h_places, .ref h_isCut, .ref h_written, .int v_writtenMany])), (h_a, .inl (cJ, 499, .inr (.inl v_a)))] [.int e_11] [] (k_X11_nowAt l D cI cJ cZ cO z h_t_ h_a h_fresh h_kept h_buffer h_worthFrom h_cutsFrom h_endFrom h_changes h_waysFrom h_costAt h_places h_isCut h_written e_11 v_keptMany st_1 v_buffered v_size v_at v_behind v_kind v_wrong v_wrongAt v_errorAt v_number v_toCut v_toLeave v_writtenMany v_a r_13 hc_) gX11_carried_X11_nowAt rfl ⟨rfl, rfl⟩ hy_X11_nowAt ⟨Nat.le_of_ble_eq_true rfl, Nat.le_of_ble_eq_true rfl⟩ rfl rfl rfl (q0 := 0) rfl rfl rfl (Nat.le_of_ble_eq_true rfl) rfl dX11_carried_101 rfl rfl ?_
      refine gq_istore hC [(4, .int r_13), (0, .ref h_t_), (2, .int e_11), (3, .int e_12)] dX11_carried_104 (by decide) rfl ?_
      refine gq_iload hC 0 dX11_carried_106 rfl ?_
      refine gq_iconst hC (-1 : Int32) dX11_carried_108 (by decide) ?_
      refine gq_icmp_eq hC 142 dX11_carried_109 (by decide) (fun hc_32 => ?_) (fun hc_32 => ?_)
      · have hF := (if_pos hc_32).symm.trans hF
        refine gq_iload_n hC 2 dX11_carried_142 rfl rfl ?_
        refine gq_iconst hC (1 : Int32) dX11_carried_143 (by decide) ?_
        refine gq_iadd hC dX11_carried_144 ?_
        refine gq_istore hC [(5, .int (e_11 + (1 : Int32))), (4, .int r_13), (0, .ref h_t_), (2, .int e_11), (3, .int e_12)] dX11_carried_145 (by decide) rfl ?_
        have lp147 : ∀ (v_thrown_15 : Int32), ∀ (out_ : (Int32) ⊕ (Unit)), (∀ (e_20 : Int32), out_ = .inl e_20 → Gx p l e (rmD 2) s m args below meth c D A 6 Q 0 0 172 [(0, .ref h_t_), (5, .int e_20)] [] [(h_t_, .inr (11, [.ref h_a, .ref h_fresh, .ref h_kept, .int v_keptMany, .int v_thrown_15, .ref h_buffer, .int v_buffered, .int v_size, .int v_at, .int v_behind, .int v_kind, .int v_wrong, .int v_wrongAt, .int v_errorAt, .long v_number, .ref h_worthFrom, .ref h_cutsFrom, .ref h_endFrom, .ref h_changes, .ref h_waysFrom, .int v_toCut, .int v_toLeave, .ref h_costAt, .ref h_places, .ref h_isCut, .ref h_written, .int v_writtenMany])), (h_a, .inl (cJ, 499, .inr (.inl v_a)))]) → (out_ = .inr () → Gx p l e (rmD 2) s m args below meth c D A 6 Q 0 0 189 [(0, .ref h_t_)] [] [(h_t_, .inr (11, [.ref h_a, .ref h_fresh, .ref h_kept, .int v_keptMany, .int v_thrown_15, .ref h_buffer, .int v_buffered, .int v_size, .int v_at, .int v_behind, .int v_kind, .int v_wrong, .int v_wrongAt, .int v_errorAt, .long v_number, .ref h_worthFrom, .ref h_cutsFrom, .ref h_endFrom, .ref h_changes, .ref h_waysFrom, .int v_toCut, .int v_toLeave, .ref h_costAt, .ref h_places, .ref h_isCut, .ref h_written, .int v_writtenMany])), (h_a, .inl (cJ, 499, .inr (.inl v_a)))]) → ∀ (N : Nat) (l5_14 : Int32), wh (fun k q => S_X11_carried_147 v_thrown_15 v_a k q) N l5_14 = some out_ → Gx p l e (rmD 2) s m args below meth c D A 6 Q 0 0 147 [(0, .ref h_t_), (5, .int l5_14)] [] [(h_t_, .inr (11, [.ref h_a, .ref h_fresh, .ref h_kept, .int v_keptMany, .int v_thrown_15, .ref h_buffer, .int v_buffered, .int v_size, .int v_at, .int v_behind, .int v_kind, .int v_wrong, .int v_wrongAt, .int v_errorAt, .long v_number, .ref h_worthFrom, .ref h_cutsFrom, .ref h_endFrom, .ref h_changes, .ref h_waysFrom, .int v_toCut, .int v_toLeave, .ref h_costAt, .ref h_places, .ref h_isCut, .ref h_written, .int v_writtenMany])), (h_a, .inl (cJ, 499, .inr (.inl v_a)))] := by
          intro v_thrown_15 out_ hx0 hx1 N
          induction N with
          | zero => intro l5_14 hw; exact absurd hw (wh_0 _ _ _)
          | succ N ih =>
            intro l5_14 hw
            have hF : S_X11_carried_147 v_thrown_15 v_a (wh (fun k q => S_X11_carried_147 v_thrown_15 v_a k q) N) l5_14 = some out_ := hw
            unfold S_X11_carried_147 at hF
            refine gq_iload hC 1 dX11_carried_147 rfl ?_
            refine gq_i2l hC dX11_carried_149 ?_
            refine gq_aload_n hC 0 dX11_carried_150 rfl rfl ?_
            refine gq_get hC (kf := 0) 0 hin_X11 rfl rfl (by decide) hw_9 rfl dX11_carried_151 ?_
            refine gq_sipush hC (410 : Int32) dX11_carried_154 (by decide) ?_
            obtain ⟨hi_16, hF⟩ := gi_e hF
            refine gq_lald hC 1 1 rfl rfl hi_16 dX11_carried_157 ?_
            refine gq_lcmp hC dX11_carried_158 ?_
            refine gq_if_ge hC 189 dX11_carried_159 (by decide) (fun hc_19 => ?_) (fun hc_19 => ?_)
            · have hF := (if_pos hc_19).symm.trans hF
              refine gq_sub [(0, .ref h_t_)] [0] rfl ?_
              exact hx1  (Option.some.inj hF).symm
            · have hF := (if_neg hc_19).symm.trans hF
              refine gq_aload_n hC 0 dX11_carried_162 rfl rfl ?_
              refine gq_iload hC 1 dX11_carried_163 rfl ?_
              obtain ⟨r_17, hc_, hF⟩ := ob1_e hF
              refine gq_callVi hC [0, 1] [(h_t_, .inr (11, [.ref h_a, .ref h_fresh, .ref h_kept, .int v_keptMany, .int v_thrown_15, .ref h_buffer, .int v_buffered, .int v_size, .int v_at, .int v_behind, .int v_kind, .int v_wrong, .int v_wrongAt, .int v_errorAt, .long v_number, .ref h_worthFrom, .ref h_cutsFrom, .ref h_endFrom, .ref h_changes, .ref h_waysFrom, .int v_toCut, .int v_toLeave, .ref h_costAt, .ref h_places, .ref h_isCut, .ref h_written, .int v_writtenMany])), (h_a, .inl (cJ, 499, .inr (.inl v_a)))] [.int l5_14] [] (k_X11_nowAt l D cI cJ cZ cO z h_t_ h_a h_fresh h_kept h_buffer h_worthFrom h_cutsFrom h_endFrom h_changes h_waysFrom h_costAt h_places h_isCut h_written l5_14 v_keptMany v_thrown_15 v_buffered v_size v_at v_behind v_kind v_wrong v_wrongAt v_errorAt v_number v_toCut v_toLeave v_writtenMany v_a r_17 hc_) gX11_carried_X11_nowAt rfl ⟨rfl, rfl⟩ hy_X11_nowAt ⟨Nat.le_of_ble_eq_true rfl, Nat.le_of_ble_eq_true rfl⟩ rfl rfl rfl (q0 := 0) rfl rfl rfl (Nat.le_of_ble_eq_true rfl) rfl dX11_carried_165 rfl rfl ?_
              refine gq_iconst hC (-1 : Int32) dX11_carried_168 (by decide) ?_
              refine gq_icmp_eq hC 183 dX11_carried_169 (by decide) (fun hc_18 => ?_) (fun hc_18 => ?_)
              · have hF := (if_pos hc_18).symm.trans hF
                refine gq_iinc hC 1 (l5_14 + (1 : Int32)) [(5, .int (l5_14 + (1 : Int32))), (0, .ref h_t_)] dX11_carried_183 rfl rfl (by decide) rfl ?_
                refine gq_goto hC 147 dX11_carried_186 (by decide) ?_
                refine gq_sub [(0, .ref h_t_), (5, .int (l5_14 + (1 : Int32)))] [1, 0] rfl ?_
                exact ih (l5_14 + (1 : Int32)) hF
              · have hF := (if_neg hc_18).symm.trans hF
                exact hx0 _ (Option.some.inj hF).symm
        refine gq_sub [(0, .ref h_t_), (5, .int (e_11 + (1 : Int32)))] [2, 0] rfl ?_
        obtain ⟨o_, hw_, hF⟩ := ob1_e hF
        refine lp147 st_1 o_ ?_ ?_ wF (e_11 + (1 : Int32)) hw_
        · intro e_21 ho_24
          subst ho_24
          have hF : (ob1 (F_X11_nowAt e_21 v_a) (fun r_22 => ob1 (F_X11_spoken r_22 v_a) (fun r_23 => some (r_23, st_1)))) = some _ := hF
          refine gq_aload_n hC 0 dX11_carried_172 rfl rfl ?_
          refine gq_aload_n hC 0 dX11_carried_173 rfl rfl ?_
          refine gq_iload hC 1 dX11_carried_174 rfl ?_
          obtain ⟨r_22, hc_, hF⟩ := ob1_e hF
          refine gq_callVi hC [0, 1] [(h_t_, .inr (11, [.ref h_a, .ref h_fresh, .ref h_kept, .int v_keptMany, .int st_1, .ref h_buffer, .int v_buffered, .int v_size, .int v_at, .int v_behind, .int v_kind, .int v_wrong, .int v_wrongAt, .int v_errorAt, .long v_number, .ref h_worthFrom, .ref h_cutsFrom, .ref h_endFrom, .ref h_changes, .ref h_waysFrom, .int v_toCut, .int v_toLeave, .ref h_costAt, .ref h_places, .ref h_isCut, .ref h_written, .int v_writtenMany])), (h_a, .inl (cJ, 499, .inr (.inl v_a)))] [.int e_21] [.ref h_t_] (k_X11_nowAt l D cI cJ cZ cO z h_t_ h_a h_fresh h_kept h_buffer h_worthFrom h_cutsFrom h_endFrom h_changes h_waysFrom h_costAt h_places h_isCut h_written e_21 v_keptMany st_1 v_buffered v_size v_at v_behind v_kind v_wrong v_wrongAt v_errorAt v_number v_toCut v_toLeave v_writtenMany v_a r_22 hc_) gX11_carried_X11_nowAt rfl ⟨rfl, rfl⟩ hy_X11_nowAt ⟨Nat.le_of_ble_eq_true rfl, Nat.le_of_ble_eq_true rfl⟩ rfl rfl rfl (q0 := 0) rfl rfl rfl (Nat.le_of_ble_eq_true rfl) rfl dX11_carried_176 rfl rfl ?_
          obtain ⟨r_23, hc_, hF⟩ := ob1_e hF
          refine gq_callVi hC [0, 1] [(h_t_, .inr (11, [.ref h_a, .ref h_fresh, .ref h_kept, .int v_keptMany, .int st_1, .ref h_buffer, .int v_buffered, .int v_size, .int v_at, .int v_behind, .int v_kind, .int v_wrong, .int v_wrongAt, .int v_errorAt, .long v_number, .ref h_worthFrom, .ref h_cutsFrom, .ref h_endFrom, .ref h_changes, .ref h_waysFrom, .int v_toCut, .int v_toLeave, .ref h_costAt, .ref h_places, .ref h_isCut, .ref h_written, .int v_writtenMany])), (h_a, .inl (cJ, 499, .inr (.inl v_a)))] [.int r_22] [] (k_X11_spoken l D cI cJ cZ cO z h_t_ h_a h_fresh h_kept h_buffer h_worthFrom h_cutsFrom h_endFrom h_changes h_waysFrom h_costAt h_places h_isCut h_written r_22 v_keptMany st_1 v_buffered v_size v_at v_behind v_kind v_wrong v_wrongAt v_errorAt v_number v_toCut v_toLeave v_writtenMany v_a r_23 hc_) gX11_carried_X11_spoken rfl ⟨rfl, rfl⟩ hy_X11_spoken ⟨Nat.le_of_ble_eq_true rfl, Nat.le_of_ble_eq_true rfl⟩ rfl rfl rfl (q0 := 0) rfl rfl rfl (Nat.le_of_ble_eq_true rfl) rfl dX11_carried_179 rfl rfl ?_
          cases hF
          rw [hQ]
          exact gq_iret hC rfl dX11_carried_182
        · intro  ho_27
          subst ho_27
          have hF : (ob1 (F_X11_many v_a) (fun r_25 => ob1 (F_X11_spoken r_25 v_a) (fun r_26 => some (r_26, st_1)))) = some _ := hF
          refine gq_aload_n hC 0 dX11_carried_189 rfl rfl ?_
          refine gq_aload_n hC 0 dX11_carried_190 rfl rfl ?_
          obtain ⟨r_25, hc_, hF⟩ := ob1_e hF
          refine gq_callVi hC [0, 1] [(h_t_, .inr (11, [.ref h_a, .ref h_fresh, .ref h_kept, .int v_keptMany, .int st_1, .ref h_buffer, .int v_buffered, .int v_size, .int v_at, .int v_behind, .int v_kind, .int v_wrong, .int v_wrongAt, .int v_errorAt, .long v_number, .ref h_worthFrom, .ref h_cutsFrom, .ref h_endFrom, .ref h_changes, .ref h_waysFrom, .int v_toCut, .int v_toLeave, .ref h_costAt, .ref h_places, .ref h_isCut, .ref h_written, .int v_writtenMany])), (h_a, .inl (cJ, 499, .inr (.inl v_a)))] [] [.ref h_t_] (k_X11_many l D cI cJ cZ cO z h_t_ h_a h_fresh h_kept h_buffer h_worthFrom h_cutsFrom h_endFrom h_changes h_waysFrom h_costAt h_places h_isCut h_written v_keptMany st_1 v_buffered v_size v_at v_behind v_kind v_wrong v_wrongAt v_errorAt v_number v_toCut v_toLeave v_writtenMany v_a r_25 hc_) gX11_carried_X11_many rfl ⟨rfl, rfl⟩ hy_X11_many ⟨Nat.le_of_ble_eq_true rfl, Nat.le_of_ble_eq_true rfl⟩ rfl rfl rfl (q0 := 0) rfl rfl rfl (Nat.le_of_ble_eq_true rfl) rfl dX11_carried_191 rfl rfl ?_
          obtain ⟨r_26, hc_, hF⟩ := ob1_e hF
          refine gq_callVi hC [0, 1] [(h_t_, .inr (11, [.ref h_a, .ref h_fresh, .ref h_kept, .int v_keptMany, .int st_1, .ref h_buffer, .int v_buffered, .int v_size, .int v_at, .int v_behind, .int v_kind, .int v_wrong, .int v_wrongAt, .int v_errorAt, .long v_number, .ref h_worthFrom, .ref h_cutsFrom, .ref h_endFrom, .ref h_changes, .ref h_waysFrom, .int v_toCut, .int v_toLeave, .ref h_costAt, .ref h_places, .ref h_isCut, .ref h_written, .int v_writtenMany])), (h_a, .inl (cJ, 499, .inr (.inl v_a)))] [.int r_25] [] (k_X11_spoken l D cI cJ cZ cO z h_t_ h_a h_fresh h_kept h_buffer h_worthFrom h_cutsFrom h_endFrom h_changes h_waysFrom h_costAt h_places h_isCut h_written r_25 v_keptMany st_1 v_buffered v_size v_at v_behind v_kind v_wrong v_wrongAt v_errorAt v_number v_toCut v_toLeave v_writtenMany v_a r_26 hc_) gX11_carried_X11_spoken rfl ⟨rfl, rfl⟩ hy_X11_spoken ⟨Nat.le_of_ble_eq_true rfl, Nat.le_of_ble_eq_true rfl⟩ rfl rfl rfl (q0 := 0) rfl rfl rfl (Nat.le_of_ble_eq_true rfl) rfl dX11_carried_194 rfl rfl ?_
          cases hF
          rw [hQ]
          exact gq_iret hC rfl dX11_carried_197
      · have hF := (if_neg hc_32).symm.trans hF
        refine gq_aload_n hC 1 dX11_carried_112 rfl rfl ?_
        refine gq_iload hC 0 dX11_carried_113 rfl ?_
        obtain ⟨r_28, hc_, hF⟩ := ob1_e hF
        refine gq_callVi hC [0, 1] [(h_t_, .inr (11, [.ref h_a, .ref h_fresh, .ref h_kept, .int v_keptMany, .int st_1, .ref h_buffer, .int v_buffered, .int v_size, .int v_at, .int v_behind, .int v_kind, .int v_wrong, .int v_wrongAt, .int v_errorAt, .long v_number, .ref h_worthFrom, .ref h_cutsFrom, .ref h_endFrom, .ref h_changes, .ref h_waysFrom, .int v_toCut, .int v_toLeave, .ref h_costAt, .ref h_places, .ref h_isCut, .ref h_written, .int v_writtenMany])), (h_a, .inl (cJ, 499, .inr (.inl v_a)))] [.int r_13] [] (k_X11_spoken l D cI cJ cZ cO z h_t_ h_a h_fresh h_kept h_buffer h_worthFrom h_cutsFrom h_endFrom h_changes h_waysFrom h_costAt h_places h_isCut h_written r_13 v_keptMany st_1 v_buffered v_size v_at v_behind v_kind v_wrong v_wrongAt v_errorAt v_number v_toCut v_toLeave v_writtenMany v_a r_28 hc_) gX11_carried_X11_spoken rfl ⟨rfl, rfl⟩ hy_X11_spoken ⟨Nat.le_of_ble_eq_true rfl, Nat.le_of_ble_eq_true rfl⟩ rfl rfl rfl (q0 := 0) rfl rfl rfl (Nat.le_of_ble_eq_true rfl) rfl dX11_carried_115 rfl rfl ?_
        refine gq_iload_n hC 3 dX11_carried_118 rfl rfl ?_
        refine gq_aload_n hC 1 dX11_carried_119 rfl rfl ?_
        refine gq_iload hC 0 dX11_carried_120 rfl ?_
        refine gq_iconst hC (0 : Int32) dX11_carried_122 (by decide) ?_
        obtain ⟨r_29, hc_, hF⟩ := ob1_e hF
        refine gq_callVi hC [0, 1] [(h_t_, .inr (11, [.ref h_a, .ref h_fresh, .ref h_kept, .int v_keptMany, .int st_1, .ref h_buffer, .int v_buffered, .int v_size, .int v_at, .int v_behind, .int v_kind, .int v_wrong, .int v_wrongAt, .int v_errorAt, .long v_number, .ref h_worthFrom, .ref h_cutsFrom, .ref h_endFrom, .ref h_changes, .ref h_waysFrom, .int v_toCut, .int v_toLeave, .ref h_costAt, .ref h_places, .ref h_isCut, .ref h_written, .int v_writtenMany])), (h_a, .inl (cJ, 499, .inr (.inl v_a)))] [.int r_13, .int (0 : Int32)] [.int e_12, .int r_28] (k_X11_of l D cI cJ cZ cO z h_t_ h_a h_fresh h_kept h_buffer h_worthFrom h_cutsFrom h_endFrom h_changes h_waysFrom h_costAt h_places h_isCut h_written r_13 (0 : Int32) v_keptMany st_1 v_buffered v_size v_at v_behind v_kind v_wrong v_wrongAt v_errorAt v_number v_toCut v_toLeave v_writtenMany v_a r_29 hc_) gX11_carried_X11_of rfl ⟨rfl, rfl⟩ hy_X11_of ⟨Nat.le_of_ble_eq_true rfl, Nat.le_of_ble_eq_true rfl⟩ rfl rfl rfl (q0 := 0) rfl rfl rfl (Nat.le_of_ble_eq_true rfl) rfl dX11_carried_123 rfl rfl ?_
        refine gq_icmp_ge hC 133 dX11_carried_126 (by decide) (fun hc_31 => ?_) (fun hc_31 => ?_)
        · have hF := (if_pos hc_31).symm.trans hF
          refine gq_aload_n hC 1 dX11_carried_133 rfl rfl ?_
          refine gq_iload hC 0 dX11_carried_134 rfl ?_
          refine gq_iconst hC (0 : Int32) dX11_carried_136 (by decide) ?_
          obtain ⟨r_30, hc_, hF⟩ := ob1_e hF
          refine gq_callVi hC [0, 1] [(h_t_, .inr (11, [.ref h_a, .ref h_fresh, .ref h_kept, .int v_keptMany, .int st_1, .ref h_buffer, .int v_buffered, .int v_size, .int v_at, .int v_behind, .int v_kind, .int v_wrong, .int v_wrongAt, .int v_errorAt, .long v_number, .ref h_worthFrom, .ref h_cutsFrom, .ref h_endFrom, .ref h_changes, .ref h_waysFrom, .int v_toCut, .int v_toLeave, .ref h_costAt, .ref h_places, .ref h_isCut, .ref h_written, .int v_writtenMany])), (h_a, .inl (cJ, 499, .inr (.inl v_a)))] [.int r_13, .int (0 : Int32)] [.int r_28] (k_X11_of l D cI cJ cZ cO z h_t_ h_a h_fresh h_kept h_buffer h_worthFrom h_cutsFrom h_endFrom h_changes h_waysFrom h_costAt h_places h_isCut h_written r_13 (0 : Int32) v_keptMany st_1 v_buffered v_size v_at v_behind v_kind v_wrong v_wrongAt v_errorAt v_number v_toCut v_toLeave v_writtenMany v_a r_30 hc_) gX11_carried_X11_of rfl ⟨rfl, rfl⟩ hy_X11_of ⟨Nat.le_of_ble_eq_true rfl, Nat.le_of_ble_eq_true rfl⟩ rfl rfl rfl (q0 := 0) rfl rfl rfl (Nat.le_of_ble_eq_true rfl) rfl dX11_carried_137 rfl rfl ?_
          refine gq_iadd hC dX11_carried_140 ?_
          cases hF
          rw [hQ]
          exact gq_iret hC rfl dX11_carried_141
        · have hF := (if_neg hc_31).symm.trans hF
          refine gq_iload_n hC 3 dX11_carried_129 rfl rfl ?_
          refine gq_goto hC 140 dX11_carried_130 (by decide) ?_
          refine gq_iadd hC dX11_carried_140 ?_
          cases hF
          rw [hQ]
          exact gq_iret hC rfl dX11_carried_141
    · have hF := (if_neg hc_33).symm.trans hF
      refine gq_iconst hC (0 : Int32) dX11_carried_49 (by decide) ?_
      cases hF
      rw [hQ]
      exact gq_iret hC rfl dX11_carried_50
  unfold F_X11_carried at hF
  refine gq_aload_n hC 0 dX11_carried_0 rfl rfl ?_
  refine gq_aload_n hC 0 dX11_carried_1 rfl rfl ?_
  refine gq_get hC (kf := 0) 0 hin_X11 rfl rfl (by decide) hw_9 rfl dX11_carried_2 ?_
  refine gq_sipush hC (409 : Int32) dX11_carried_5 (by decide) ?_
  obtain ⟨hi_34, hF⟩ := gi_e hF
  refine gq_lald hC 1 1 rfl rfl hi_34 dX11_carried_8 ?_
  refine gq_lconst hC (0 : Int64) dX11_carried_9 (by decide) ?_
  refine gq_lcmp hC dX11_carried_10 ?_
  refine gq_if_ne hC 18 dX11_carried_11 (by decide) (fun hc_38 => ?_) (fun hc_38 => ?_)
  · have hF := (if_neg hc_38).symm.trans hF
    refine gq_iload_n hC 1 dX11_carried_18 rfl rfl ?_
    refine gq_i2l hC dX11_carried_19 ?_
    refine gq_lconst hC (0 : Int64) dX11_carried_20 (by decide) ?_
    refine gq_aload_n hC 0 dX11_carried_21 rfl rfl ?_
    obtain ⟨r_35, hc_, hF⟩ := ob1_e hF
    refine gq_callVi hC [0, 1] [(h_t_, .inr (11, [.ref h_a, .ref h_fresh, .ref h_kept, .int v_keptMany, .int v_thrown, .ref h_buffer, .int v_buffered, .int v_size, .int v_at, .int v_behind, .int v_kind, .int v_wrong, .int v_wrongAt, .int v_errorAt, .long v_number, .ref h_worthFrom, .ref h_cutsFrom, .ref h_endFrom, .ref h_changes, .ref h_waysFrom, .int v_toCut, .int v_toLeave, .ref h_costAt, .ref h_places, .ref h_isCut, .ref h_written, .int v_writtenMany])), (h_a, .inl (cJ, 499, .inr (.inl v_a)))] [] [.long (0 : Int64), .long (x1.toInt64), .ref h_t_] (k_X11_keptTime l D cI cJ cZ cO z h_t_ h_a h_fresh h_kept h_buffer h_worthFrom h_cutsFrom h_endFrom h_changes h_waysFrom h_costAt h_places h_isCut h_written v_keptMany v_thrown v_buffered v_size v_at v_behind v_kind v_wrong v_wrongAt v_errorAt v_number v_toCut v_toLeave v_writtenMany v_a r_35 hc_) gX11_carried_X11_keptTime rfl ⟨rfl, rfl⟩ hy_X11_keptTime ⟨Nat.le_of_ble_eq_true rfl, Nat.le_of_ble_eq_true rfl⟩ rfl rfl rfl (q0 := 0) rfl rfl rfl (Nat.le_of_ble_eq_true rfl) rfl dX11_carried_22 rfl rfl ?_
    refine gq_iconst hC (1 : Int32) dX11_carried_25 (by decide) ?_
    refine gq_isub hC dX11_carried_26 ?_
    refine gq_i2l hC dX11_carried_27 ?_
    obtain ⟨r_36, hc_, hF⟩ := ob1_e hF
    refine gq_callSi hC [] [(h_t_, .inr (11, [.ref h_a, .ref h_fresh, .ref h_kept, .int v_keptMany, .int v_thrown, .ref h_buffer, .int v_buffered, .int v_size, .int v_at, .int v_behind, .int v_kind, .int v_wrong, .int v_wrongAt, .int v_errorAt, .long v_number, .ref h_worthFrom, .ref h_cutsFrom, .ref h_endFrom, .ref h_changes, .ref h_waysFrom, .int v_toCut, .int v_toLeave, .ref h_costAt, .ref h_places, .ref h_isCut, .ref h_written, .int v_writtenMany])), (h_a, .inl (cJ, 499, .inr (.inl v_a)))] [.long (x1.toInt64), .long (0 : Int64), .long ((r_35 - (1 : Int32)).toInt64)] [.ref h_t_] (k_X11_isIn l D cI cJ cZ cO z  (x1.toInt64) (0 : Int64) ((r_35 - (1 : Int32)).toInt64) r_36 hc_) gX11_carried_X11_isIn rfl ⟨rfl, rfl⟩ hy_X11_isIn rfl ⟨Nat.le_of_ble_eq_true rfl, Nat.le_of_ble_eq_true rfl⟩ rfl rfl rfl (Nat.le_of_ble_eq_true rfl) rfl dX11_carried_28 rfl rfl ?_
    refine gq_if_eq hC 38 dX11_carried_31 (by decide) (fun hc_37 => ?_) (fun hc_37 => ?_)
    · have hF := (if_pos hc_37).symm.trans hF
      refine gq_iconst hC (2 : Int32) dX11_carried_38 (by decide) ?_
      exact jb39 (2 : Int32) v_thrown hF
    · have hF := (if_neg hc_37).symm.trans hF
      refine gq_iconst hC (0 : Int32) dX11_carried_34 (by decide) ?_
      refine gq_goto hC 39 dX11_carried_35 (by decide) ?_
      exact jb39 (0 : Int32) v_thrown hF
  · have hF := (if_pos hc_38).symm.trans hF
    refine gq_iconst hC (1 : Int32) dX11_carried_14 (by decide) ?_
    refine gq_goto hC 39 dX11_carried_15 (by decide) ?_
    exact jb39 (1 : Int32) v_thrown hF
theorem hy_X11_says : yX11_says.cls = RX11 ∧ yX11_says.cls ≠ "java/lang/invoke/MethodHandle" ∧ yX11_says.cls ≠ "java/lang/invoke/VarHandle" ∧ (parseMethodDescriptor yX11_says.desc).map (fun d => d.parameters.length) = some 1 := by decide +kernel
set_option maxRecDepth 20000 in
set_option maxHeartbeats 4000000 in
theorem k_X11_says (l : Launch) (D : va_G) (cI cJ cZ cO : ClassId) (z : Nat → Nat)   (h_t_ : Nat) (h_written : Nat) (h_a : Nat) (h_fresh : Nat) (h_kept : Nat) (h_buffer : Nat) (h_worthFrom : Nat) (h_cutsFrom : Nat) (h_endFrom : Nat) (h_changes : Nat) (h_waysFrom : Nat) (h_costAt : Nat) (h_places : Nat) (h_isCut : Nat) (x1 : Int32) (v_keptMany : Int32) (v_thrown : Int32) (v_buffered : Int32) (v_size : Int32) (v_at : Int32) (v_behind : Int32) (v_kind : Int32) (v_wrong : Int32) (v_wrongAt : Int32) (v_errorAt : Int32) (v_number : Int64) (v_toCut : Int32) (v_toLeave : Int32) (v_writtenMany : Int32) (v_written : Nat → Int32) (w_writtenMany : Int32) (w_written : Nat → Int32) (hF : F_X11_says x1 v_writtenMany v_written = some (w_writtenMany, w_written)) : Mv l yX11_says wsX11_says (rmD 0) D (gq_ty cI cJ cZ cO) z [.ref h_t_, .int x1] [(h_t_, .inr (11, [.ref h_a, .ref h_fresh, .ref h_kept, .int v_keptMany, .int v_thrown, .ref h_buffer, .int v_buffered, .int v_size, .int v_at, .int v_behind, .int v_kind, .int v_wrong, .int v_wrongAt, .int v_errorAt, .long v_number, .ref h_worthFrom, .ref h_cutsFrom, .ref h_endFrom, .ref h_changes, .ref h_waysFrom, .int v_toCut, .int v_toLeave, .ref h_costAt, .ref h_places, .ref h_isCut, .ref h_written, .int v_writtenMany])), (h_written, .inl (cI, 1200, .inl v_written))] [(h_t_, .inr (11, [.ref h_a, .ref h_fresh, .ref h_kept, .int v_keptMany, .int v_thrown, .ref h_buffer, .int v_buffered, .int v_size, .int v_at, .int v_behind, .int v_kind, .int v_wrong, .int v_wrongAt, .int v_errorAt, .long v_number, .ref h_worthFrom, .ref h_cutsFrom, .ref h_endFrom, .ref h_changes, .ref h_waysFrom, .int v_toCut, .int v_toLeave, .ref h_costAt, .ref h_places, .ref h_isCut, .ref h_written, .int w_writtenMany])), (h_written, .inl (cI, 1200, .inl w_written))] 0 0 := by
  refine Mv.of (cc := cX11_says) (maxL := 2) (by decide) rfl (Nat.le_of_ble_eq_true rfl) ⟨Nat.le_refl 0, Nat.le_refl 0⟩ ?_
  intro p e s m args below meth c A hC ha
  have hin_X11 : ∀ w ∈ wsX110, w ∈ wsX11_says := by decide +kernel
  have hw_58 : Cond.fieldLink RX11 58 (TX11 25).1 (TX11 25).2.1 (TX11 25).2.2.1 ∈ wsX11_says := by decide +kernel
  have hw_342 : Cond.fieldLink RX11 342 (TX11 26).1 (TX11 26).2.1 (TX11 26).2.2.1 ∈ wsX11_says := by decide +kernel
  obtain ⟨Q, hQ⟩ : ∃ Q, Q = gq_Qv below D A args s [(h_t_, .inr (11, [.ref h_a, .ref h_fresh, .ref h_kept, .int v_keptMany, .int v_thrown, .ref h_buffer, .int v_buffered, .int v_size, .int v_at, .int v_behind, .int v_kind, .int v_wrong, .int v_wrongAt, .int v_errorAt, .long v_number, .ref h_worthFrom, .ref h_cutsFrom, .ref h_endFrom, .ref h_changes, .ref h_waysFrom, .int v_toCut, .int v_toLeave, .ref h_costAt, .ref h_places, .ref h_isCut, .ref h_written, .int w_writtenMany])), (h_written, .inl (cI, 1200, .inl w_written))] 0 0 := ⟨_, rfl⟩
  rw [← hQ]
  refine gq_loc [(0, .ref h_t_), (1, .int x1)] rfl ?_
  unfold F_X11_says at hF
  refine gq_aload_n hC 0 dX11_says_0 rfl rfl ?_
  refine gq_get hC (kf := 25) 0 hin_X11 rfl rfl (by decide) hw_58 rfl dX11_says_1 ?_
  refine gq_aload_n hC 0 dX11_says_4 rfl rfl ?_
  refine gq_get hC (kf := 26) 0 hin_X11 rfl rfl (by decide) hw_342 rfl dX11_says_5 ?_
  refine gq_iload_n hC 1 dX11_says_8 rfl rfl ?_
  obtain ⟨hi_1, hF⟩ := gi_e hF
  refine gq_iast hC 1 0 [(h_t_, .inr (11, [.ref h_a, .ref h_fresh, .ref h_kept, .int v_keptMany, .int v_thrown, .ref h_buffer, .int v_buffered, .int v_size, .int v_at, .int v_behind, .int v_kind, .int v_wrong, .int v_wrongAt, .int v_errorAt, .long v_number, .ref h_worthFrom, .ref h_cutsFrom, .ref h_endFrom, .ref h_changes, .ref h_waysFrom, .int v_toCut, .int v_toLeave, .ref h_costAt, .ref h_places, .ref h_isCut, .ref h_written, .int v_writtenMany])), (h_written, .inl (cI, 1200, .inl (upd v_written v_writtenMany.toNatClampNeg x1)))] rfl rfl hi_1 dX11_says_9 rfl ?_
  refine gq_aload_n hC 0 dX11_says_10 rfl rfl ?_
  refine gq_dup hC dX11_says_11 rfl ?_
  refine gq_get hC (kf := 26) 0 hin_X11 rfl rfl (by decide) hw_342 rfl dX11_says_12 ?_
  refine gq_iconst hC (1 : Int32) dX11_says_15 (by decide) ?_
  refine gq_iadd hC dX11_says_16 ?_
  refine gq_put1 hC (kf := 26) 0 [(h_t_, .inr (11, [.ref h_a, .ref h_fresh, .ref h_kept, .int v_keptMany, .int v_thrown, .ref h_buffer, .int v_buffered, .int v_size, .int v_at, .int v_behind, .int v_kind, .int v_wrong, .int v_wrongAt, .int v_errorAt, .long v_number, .ref h_worthFrom, .ref h_cutsFrom, .ref h_endFrom, .ref h_changes, .ref h_waysFrom, .int v_toCut, .int v_toLeave, .ref h_costAt, .ref h_places, .ref h_isCut, .ref h_written, .int (v_writtenMany + (1 : Int32))])), (h_written, .inl (cI, 1200, .inl (upd v_written v_writtenMany.toNatClampNeg x1)))] tyX11 tyX11_ok nmX11 hin_X11 rfl rfl (by decide) hw_342 rfl rfl rfl (Nat.le_of_ble_eq_true rfl) dX11_says_17 rfl ?_
  cases hF
  rw [hQ]
  exact gq_vret hC dX11_says_20
theorem hy_X11_saysNumber : yX11_saysNumber.cls = RX11 ∧ yX11_saysNumber.cls ≠ "java/lang/invoke/MethodHandle" ∧ yX11_saysNumber.cls ≠ "java/lang/invoke/VarHandle" ∧ (parseMethodDescriptor yX11_saysNumber.desc).map (fun d => d.parameters.length) = some 1 := by decide +kernel
set_option maxRecDepth 20000 in
set_option maxHeartbeats 4000000 in
theorem k_X11_saysNumber (l : Launch) (D : va_G) (cI cJ cZ cO : ClassId) (z : Nat → Nat) (h_t_ : Nat) (h_written : Nat) (h_a : Nat) (h_fresh : Nat) (h_kept : Nat) (h_buffer : Nat) (h_worthFrom : Nat) (h_cutsFrom : Nat) (h_endFrom : Nat) (h_changes : Nat) (h_waysFrom : Nat) (h_costAt : Nat) (h_places : Nat) (h_isCut : Nat) : ∀ (d : Nat) (x1 : Int32) (v_keptMany : Int32) (v_thrown : Int32) (v_buffered : Int32) (v_size : Int32) (v_at : Int32) (v_behind : Int32) (v_kind : Int32) (v_wrong : Int32) (v_wrongAt : Int32) (v_errorAt : Int32) (v_number : Int64) (v_toCut : Int32) (v_toLeave : Int32) (v_writtenMany : Int32) (v_written : Nat → Int32) (w_writtenMany : Int32) (w_written : Nat → Int32) (hF : F_X11_saysNumber d x1 v_writtenMany v_written = some (w_writtenMany, w_written)), Mv l yX11_saysNumber wsX11_saysNumber (rmD (1 + d)) D (gq_ty cI cJ cZ cO) z [.ref h_t_, .int x1] [(h_t_, .inr (11, [.ref h_a, .ref h_fresh, .ref h_kept, .int v_keptMany, .int v_thrown, .ref h_buffer, .int v_buffered, .int v_size, .int v_at, .int v_behind, .int v_kind, .int v_wrong, .int v_wrongAt, .int v_errorAt, .long v_number, .ref h_worthFrom, .ref h_cutsFrom, .ref h_endFrom, .ref h_changes, .ref h_waysFrom, .int v_toCut, .int v_toLeave, .ref h_costAt, .ref h_places, .ref h_isCut, .ref h_written, .int v_writtenMany])), (h_written, .inl (cI, 1200, .inl v_written))] [(h_t_, .inr (11, [.ref h_a, .ref h_fresh, .ref h_kept, .int v_keptMany, .int v_thrown, .ref h_buffer, .int v_buffered, .int v_size, .int v_at, .int v_behind, .int v_kind, .int v_wrong, .int v_wrongAt, .int v_errorAt, .long v_number, .ref h_worthFrom, .ref h_cutsFrom, .ref h_endFrom, .ref h_changes, .ref h_waysFrom, .int v_toCut, .int v_toLeave, .ref h_costAt, .ref h_places, .ref h_isCut, .ref h_written, .int w_writtenMany])), (h_written, .inl (cI, 1200, .inl w_written))] 0 0 := by
  intro d
  induction d with
  | zero => intro x1 v_keptMany v_thrown v_buffered v_size v_at v_behind v_kind v_wrong v_wrongAt v_errorAt v_number v_toCut v_toLeave v_writtenMany v_written w_writtenMany w_written hF; exact absurd hF (by simp [F_X11_saysNumber])
  | succ d ih =>
  intro x1 v_keptMany v_thrown v_buffered v_size v_at v_behind v_kind v_wrong v_wrongAt v_errorAt v_number v_toCut v_toLeave v_writtenMany v_written w_writtenMany w_written hF
  refine Mv.of (cc := cX11_saysNumber) (maxL := 2) (by decide) rfl (Nat.le_of_ble_eq_true rfl) ⟨Nat.le_refl 0, Nat.le_refl 0⟩ ?_
  intro p e s m args below meth c A hC ha
  obtain ⟨Q, hQ⟩ : ∃ Q, Q = gq_Qv below D A args s [(h_t_, .inr (11, [.ref h_a, .ref h_fresh, .ref h_kept, .int v_keptMany, .int v_thrown, .ref h_buffer, .int v_buffered, .int v_size, .int v_at, .int v_behind, .int v_kind, .int v_wrong, .int v_wrongAt, .int v_errorAt, .long v_number, .ref h_worthFrom, .ref h_cutsFrom, .ref h_endFrom, .ref h_changes, .ref h_waysFrom, .int v_toCut, .int v_toLeave, .ref h_costAt, .ref h_places, .ref h_isCut, .ref h_written, .int w_writtenMany])), (h_written, .inl (cI, 1200, .inl w_written))] 0 0 := ⟨_, rfl⟩
  rw [← hQ]
  refine gq_loc [(0, .ref h_t_), (1, .int x1)] rfl ?_
  have jb14 : ∀ (v_writtenMany_1 : Int32) (v_written_2 : Nat → Int32), F_X11_saysNumber_b14 x1 v_writtenMany_1 v_written_2 = some (w_writtenMany, w_written) → Gx p l e (rmD (1 + (d + 1))) s m args below meth c D A 2 Q 0 0 14 [(0, .ref h_t_), (1, .int x1)] [] [(h_t_, .inr (11, [.ref h_a, .ref h_fresh, .ref h_kept, .int v_keptMany, .int v_thrown, .ref h_buffer, .int v_buffered, .int v_size, .int v_at, .int v_behind, .int v_kind, .int v_wrong, .int v_wrongAt, .int v_errorAt, .long v_number, .ref h_worthFrom, .ref h_cutsFrom, .ref h_endFrom, .ref h_changes, .ref h_waysFrom, .int v_toCut, .int v_toLeave, .ref h_costAt, .ref h_places, .ref h_isCut, .ref h_written, .int v_writtenMany_1])), (h_written, .inl (cI, 1200, .inl v_written_2))] := by
    intro v_writtenMany_1 v_written_2 hF
    unfold F_X11_saysNumber_b14 at hF
    refine gq_aload_n hC 0 dX11_saysNumber_14 rfl rfl ?_
    refine gq_bipush hC (48 : Int32) dX11_saysNumber_15 (by decide) ?_
    refine gq_iload_n hC 1 dX11_saysNumber_17 rfl rfl ?_
    refine gq_bipush hC (10 : Int32) dX11_saysNumber_18 (by decide) ?_
    obtain ⟨hz_3, hF⟩ := gzi_e hF
    refine gq_irem hC dX11_saysNumber_20 hz_3 ?_
    refine gq_iadd hC dX11_saysNumber_21 ?_
    obtain ⟨v_writtenMany_4, v_written_5, hc_, hF⟩ := ob2_e hF
    refine gq_callVv hC [0, 1] [(h_t_, .inr (11, [.ref h_a, .ref h_fresh, .ref h_kept, .int v_keptMany, .int v_thrown, .ref h_buffer, .int v_buffered, .int v_size, .int v_at, .int v_behind, .int v_kind, .int v_wrong, .int v_wrongAt, .int v_errorAt, .long v_number, .ref h_worthFrom, .ref h_cutsFrom, .ref h_endFrom, .ref h_changes, .ref h_waysFrom, .int v_toCut, .int v_toLeave, .ref h_costAt, .ref h_places, .ref h_isCut, .ref h_written, .int v_writtenMany_4])), (h_written, .inl (cI, 1200, .inl v_written_5))] [.int ((48 : Int32) + (x1 - x1 / (10 : Int32) * (10 : Int32)))] [] (k_X11_says l D cI cJ cZ cO z h_t_ h_written h_a h_fresh h_kept h_buffer h_worthFrom h_cutsFrom h_endFrom h_changes h_waysFrom h_costAt h_places h_isCut ((48 : Int32) + (x1 - x1 / (10 : Int32) * (10 : Int32))) v_keptMany v_thrown v_buffered v_size v_at v_behind v_kind v_wrong v_wrongAt v_errorAt v_number v_toCut v_toLeave v_writtenMany_1 v_written_2 v_writtenMany_4 v_written_5 hc_) gX11_saysNumber_X11_says rfl ⟨rfl, rfl⟩ hy_X11_says (by constructor <;> simp only [rmD] <;> omega) rfl rfl rfl (q0 := 0) rfl rfl rfl (Nat.le_of_ble_eq_true rfl) rfl dX11_saysNumber_22 rfl rfl ?_
    cases hF
    rw [hQ]
    exact gq_vret hC dX11_saysNumber_25
  rw [F_X11_saysNumber] at hF
  refine gq_iload_n hC 1 dX11_saysNumber_0 rfl rfl ?_
  refine gq_bipush hC (9 : Int32) dX11_saysNumber_1 (by decide) ?_
  refine gq_icmp_le hC 14 dX11_saysNumber_3 (by decide) (fun hc_9 => ?_) (fun hc_9 => ?_)
  · have hF := (if_pos hc_9).symm.trans hF
    exact jb14 v_writtenMany v_written hF
  · have hF := (if_neg hc_9).symm.trans hF
    refine gq_aload_n hC 0 dX11_saysNumber_6 rfl rfl ?_
    refine gq_iload_n hC 1 dX11_saysNumber_7 rfl rfl ?_
    refine gq_bipush hC (10 : Int32) dX11_saysNumber_8 (by decide) ?_
    obtain ⟨hz_6, hF⟩ := gzi_e hF
    refine gq_idiv hC dX11_saysNumber_10 hz_6 ?_
    obtain ⟨v_writtenMany_7, v_written_8, hc_, hF⟩ := ob2_e hF
    refine gq_callVv hC [0, 1] [(h_t_, .inr (11, [.ref h_a, .ref h_fresh, .ref h_kept, .int v_keptMany, .int v_thrown, .ref h_buffer, .int v_buffered, .int v_size, .int v_at, .int v_behind, .int v_kind, .int v_wrong, .int v_wrongAt, .int v_errorAt, .long v_number, .ref h_worthFrom, .ref h_cutsFrom, .ref h_endFrom, .ref h_changes, .ref h_waysFrom, .int v_toCut, .int v_toLeave, .ref h_costAt, .ref h_places, .ref h_isCut, .ref h_written, .int v_writtenMany_7])), (h_written, .inl (cI, 1200, .inl v_written_8))] [.int (x1 / (10 : Int32))] [] (ih  (x1 / (10 : Int32)) v_keptMany v_thrown v_buffered v_size v_at v_behind v_kind v_wrong v_wrongAt v_errorAt v_number v_toCut v_toLeave v_writtenMany v_written v_writtenMany_7 v_written_8 hc_) gX11_saysNumber_X11_saysNumber rfl ⟨rfl, rfl⟩ hy_X11_saysNumber (by constructor <;> simp only [rmD] <;> omega) rfl rfl rfl (q0 := 0) rfl rfl rfl (Nat.le_of_ble_eq_true rfl) rfl dX11_saysNumber_11 rfl rfl ?_
    exact jb14 v_writtenMany_7 v_written_8 hF
theorem hy_X11_saysName : yX11_saysName.cls = RX11 ∧ yX11_saysName.cls ≠ "java/lang/invoke/MethodHandle" ∧ yX11_saysName.cls ≠ "java/lang/invoke/VarHandle" ∧ (parseMethodDescriptor yX11_saysName.desc).map (fun d => d.parameters.length) = some 1 := by decide +kernel
set_option maxRecDepth 20000 in
set_option maxHeartbeats 4000000 in
theorem k_X11_saysName (l : Launch) (D : va_G) (cI cJ cZ cO : ClassId) (z : Nat → Nat) (h_t_ : Nat) (h_written : Nat) (h_a : Nat) (h_fresh : Nat) (h_kept : Nat) (h_buffer : Nat) (h_worthFrom : Nat) (h_cutsFrom : Nat) (h_endFrom : Nat) (h_changes : Nat) (h_waysFrom : Nat) (h_costAt : Nat) (h_places : Nat) (h_isCut : Nat) : ∀ (d : Nat) (x1 : Int64) (v_keptMany : Int32) (v_thrown : Int32) (v_buffered : Int32) (v_size : Int32) (v_at : Int32) (v_behind : Int32) (v_kind : Int32) (v_wrong : Int32) (v_wrongAt : Int32) (v_errorAt : Int32) (v_number : Int64) (v_toCut : Int32) (v_toLeave : Int32) (v_writtenMany : Int32) (v_written : Nat → Int32) (w_writtenMany : Int32) (w_written : Nat → Int32) (hF : F_X11_saysName d x1 v_writtenMany v_written = some (w_writtenMany, w_written)), Mv l yX11_saysName wsX11_saysName (rmD (1 + d)) D (gq_ty cI cJ cZ cO) z [.ref h_t_, .long x1] [(h_t_, .inr (11, [.ref h_a, .ref h_fresh, .ref h_kept, .int v_keptMany, .int v_thrown, .ref h_buffer, .int v_buffered, .int v_size, .int v_at, .int v_behind, .int v_kind, .int v_wrong, .int v_wrongAt, .int v_errorAt, .long v_number, .ref h_worthFrom, .ref h_cutsFrom, .ref h_endFrom, .ref h_changes, .ref h_waysFrom, .int v_toCut, .int v_toLeave, .ref h_costAt, .ref h_places, .ref h_isCut, .ref h_written, .int v_writtenMany])), (h_written, .inl (cI, 1200, .inl v_written))] [(h_t_, .inr (11, [.ref h_a, .ref h_fresh, .ref h_kept, .int v_keptMany, .int v_thrown, .ref h_buffer, .int v_buffered, .int v_size, .int v_at, .int v_behind, .int v_kind, .int v_wrong, .int v_wrongAt, .int v_errorAt, .long v_number, .ref h_worthFrom, .ref h_cutsFrom, .ref h_endFrom, .ref h_changes, .ref h_waysFrom, .int v_toCut, .int v_toLeave, .ref h_costAt, .ref h_places, .ref h_isCut, .ref h_written, .int w_writtenMany])), (h_written, .inl (cI, 1200, .inl w_written))] 0 0 := by
  intro d
  induction d with
  | zero => intro x1 v_keptMany v_thrown v_buffered v_size v_at v_behind v_kind v_wrong v_wrongAt v_errorAt v_number v_toCut v_toLeave v_writtenMany v_written w_writtenMany w_written hF; exact absurd hF (by simp [F_X11_saysName])
  | succ d ih =>
  intro x1 v_keptMany v_thrown v_buffered v_size v_at v_behind v_kind v_wrong v_wrongAt v_errorAt v_number v_toCut v_toLeave v_writtenMany v_written w_writtenMany w_written hF
  refine Mv.of (cc := cX11_saysName) (maxL := 3) (by decide) rfl (Nat.le_of_ble_eq_true rfl) ⟨Nat.le_refl 0, Nat.le_refl 0⟩ ?_
  intro p e s m args below meth c A hC ha
  obtain ⟨Q, hQ⟩ : ∃ Q, Q = gq_Qv below D A args s [(h_t_, .inr (11, [.ref h_a, .ref h_fresh, .ref h_kept, .int v_keptMany, .int v_thrown, .ref h_buffer, .int v_buffered, .int v_size, .int v_at, .int v_behind, .int v_kind, .int v_wrong, .int v_wrongAt, .int v_errorAt, .long v_number, .ref h_worthFrom, .ref h_cutsFrom, .ref h_endFrom, .ref h_changes, .ref h_waysFrom, .int v_toCut, .int v_toLeave, .ref h_costAt, .ref h_places, .ref h_isCut, .ref h_written, .int w_writtenMany])), (h_written, .inl (cI, 1200, .inl w_written))] 0 0 := ⟨_, rfl⟩
  rw [← hQ]
  refine gq_loc [(0, .ref h_t_), (1, .long x1)] rfl ?_
  have jb17 : ∀ (v_writtenMany_1 : Int32) (v_written_2 : Nat → Int32), F_X11_saysName_b17 x1 v_writtenMany_1 v_written_2 = some (w_writtenMany, w_written) → Gx p l e (rmD (1 + (d + 1))) s m args below meth c D A 3 Q 0 0 17 [(0, .ref h_t_), (1, .long x1)] [] [(h_t_, .inr (11, [.ref h_a, .ref h_fresh, .ref h_kept, .int v_keptMany, .int v_thrown, .ref h_buffer, .int v_buffered, .int v_size, .int v_at, .int v_behind, .int v_kind, .int v_wrong, .int v_wrongAt, .int v_errorAt, .long v_number, .ref h_worthFrom, .ref h_cutsFrom, .ref h_endFrom, .ref h_changes, .ref h_waysFrom, .int v_toCut, .int v_toLeave, .ref h_costAt, .ref h_places, .ref h_isCut, .ref h_written, .int v_writtenMany_1])), (h_written, .inl (cI, 1200, .inl v_written_2))] := by
    intro v_writtenMany_1 v_written_2 hF
    unfold F_X11_saysName_b17 at hF
    refine gq_aload_n hC 0 dX11_saysName_17 rfl rfl ?_
    refine gq_lload_n hC 1 dX11_saysName_18 rfl rfl ?_
    refine gq_ldc2 hC (32 : Int64) dX11_saysName_19 (by decide +kernel) ?_
    obtain ⟨hz_3, hF⟩ := gzj_e hF
    refine gq_lrem hC dX11_saysName_22 hz_3 ?_
    refine gq_l2i hC dX11_saysName_23 ?_
    refine gq_bipush hC (96 : Int32) dX11_saysName_24 (by decide) ?_
    refine gq_iadd hC dX11_saysName_26 ?_
    obtain ⟨v_writtenMany_4, v_written_5, hc_, hF⟩ := ob2_e hF
    refine gq_callVv hC [0, 1] [(h_t_, .inr (11, [.ref h_a, .ref h_fresh, .ref h_kept, .int v_keptMany, .int v_thrown, .ref h_buffer, .int v_buffered, .int v_size, .int v_at, .int v_behind, .int v_kind, .int v_wrong, .int v_wrongAt, .int v_errorAt, .long v_number, .ref h_worthFrom, .ref h_cutsFrom, .ref h_endFrom, .ref h_changes, .ref h_waysFrom, .int v_toCut, .int v_toLeave, .ref h_costAt, .ref h_places, .ref h_isCut, .ref h_written, .int v_writtenMany_4])), (h_written, .inl (cI, 1200, .inl v_written_5))] [.int (((x1 - x1 / (32 : Int64) * (32 : Int64)).toInt32) + (96 : Int32))] [] (k_X11_says l D cI cJ cZ cO z h_t_ h_written h_a h_fresh h_kept h_buffer h_worthFrom h_cutsFrom h_endFrom h_changes h_waysFrom h_costAt h_places h_isCut (((x1 - x1 / (32 : Int64) * (32 : Int64)).toInt32) + (96 : Int32)) v_keptMany v_thrown v_buffered v_size v_at v_behind v_kind v_wrong v_wrongAt v_errorAt v_number v_toCut v_toLeave v_writtenMany_1 v_written_2 v_writtenMany_4 v_written_5 hc_) gX11_saysName_X11_says rfl ⟨rfl, rfl⟩ hy_X11_says (by constructor <;> simp only [rmD] <;> omega) rfl rfl rfl (q0 := 0) rfl rfl rfl (Nat.le_of_ble_eq_true rfl) rfl dX11_saysName_27 rfl rfl ?_
    cases hF
    rw [hQ]
    exact gq_vret hC dX11_saysName_30
  rw [F_X11_saysName] at hF
  refine gq_lload_n hC 1 dX11_saysName_0 rfl rfl ?_
  refine gq_ldc2 hC (32 : Int64) dX11_saysName_1 (by decide +kernel) ?_
  refine gq_lcmp hC dX11_saysName_4 ?_
  refine gq_if_lt hC 17 dX11_saysName_5 (by decide) (fun hc_9 => ?_) (fun hc_9 => ?_)
  · have hF := (if_pos hc_9).symm.trans hF
    exact jb17 v_writtenMany v_written hF
  · have hF := (if_neg hc_9).symm.trans hF
    refine gq_aload_n hC 0 dX11_saysName_8 rfl rfl ?_
    refine gq_lload_n hC 1 dX11_saysName_9 rfl rfl ?_
    refine gq_ldc2 hC (32 : Int64) dX11_saysName_10 (by decide +kernel) ?_
    obtain ⟨hz_6, hF⟩ := gzj_e hF
    refine gq_ldiv hC dX11_saysName_13 hz_6 ?_
    obtain ⟨v_writtenMany_7, v_written_8, hc_, hF⟩ := ob2_e hF
    refine gq_callVv hC [0, 1] [(h_t_, .inr (11, [.ref h_a, .ref h_fresh, .ref h_kept, .int v_keptMany, .int v_thrown, .ref h_buffer, .int v_buffered, .int v_size, .int v_at, .int v_behind, .int v_kind, .int v_wrong, .int v_wrongAt, .int v_errorAt, .long v_number, .ref h_worthFrom, .ref h_cutsFrom, .ref h_endFrom, .ref h_changes, .ref h_waysFrom, .int v_toCut, .int v_toLeave, .ref h_costAt, .ref h_places, .ref h_isCut, .ref h_written, .int v_writtenMany_7])), (h_written, .inl (cI, 1200, .inl v_written_8))] [.long (x1 / (32 : Int64))] [] (ih  (x1 / (32 : Int64)) v_keptMany v_thrown v_buffered v_size v_at v_behind v_kind v_wrong v_wrongAt v_errorAt v_number v_toCut v_toLeave v_writtenMany v_written v_writtenMany_7 v_written_8 hc_) gX11_saysName_X11_saysName rfl ⟨rfl, rfl⟩ hy_X11_saysName (by constructor <;> simp only [rmD] <;> omega) rfl rfl rfl (q0 := 0) rfl rfl rfl (Nat.le_of_ble_eq_true rfl) rfl dX11_saysName_14 rfl rfl ?_
    exact jb17 v_writtenMany_7 v_written_8 hF
theorem hy_X11_writeChapters : yX11_writeChapters.cls = RX11 ∧ yX11_writeChapters.cls ≠ "java/lang/invoke/MethodHandle" ∧ yX11_writeChapters.cls ≠ "java/lang/invoke/VarHandle" ∧ (parseMethodDescriptor yX11_writeChapters.desc).map (fun d => d.parameters.length) = some 0 := by decide +kernel
set_option maxRecDepth 20000 in
set_option maxHeartbeats 4000000 in
theorem k_X11_writeChapters (l : Launch) (D : va_G) (cI cJ cZ cO : ClassId) (z : Nat → Nat)   (h_t_ : Nat) (h_a : Nat) (h_worthFrom : Nat) (h_cutsFrom : Nat) (h_endFrom : Nat) (h_changes : Nat) (h_waysFrom : Nat) (h_costAt : Nat) (h_places : Nat) (h_isCut : Nat) (h_written : Nat) (h_fresh : Nat) (h_kept : Nat) (h_buffer : Nat)  (v_keptMany : Int32) (v_thrown : Int32) (v_buffered : Int32) (v_size : Int32) (v_at : Int32) (v_behind : Int32) (v_kind : Int32) (v_wrong : Int32) (v_wrongAt : Int32) (v_errorAt : Int32) (v_number : Int64) (v_toCut : Int32) (v_toLeave : Int32) (v_writtenMany : Int32) (v_a : Nat → Int64) (v_worthFrom : Nat → Int32) (v_cutsFrom : Nat → Int32) (v_endFrom : Nat → Int32) (v_changes : Nat → Int32) (v_waysFrom : Nat → Int64) (v_costAt : Nat → Int32) (v_places : Nat → Int32) (v_isCut : Nat → Int32) (v_written : Nat → Int32) (r_ : Int32) (w_thrown : Int32) (w_writtenMany : Int32) (w_worthFrom : Nat → Int32) (w_cutsFrom : Nat → Int32) (w_endFrom : Nat → Int32) (w_changes : Nat → Int32) (w_waysFrom : Nat → Int64) (w_costAt : Nat → Int32) (w_places : Nat → Int32) (w_isCut : Nat → Int32) (w_written : Nat → Int32) (hF : F_X11_writeChapters v_thrown v_toCut v_toLeave v_writtenMany v_a v_worthFrom v_cutsFrom v_endFrom v_changes v_waysFrom v_costAt v_places v_isCut v_written = some (r_, w_thrown, w_writtenMany, w_worthFrom, w_cutsFrom, w_endFrom, w_changes, w_waysFrom, w_costAt, w_places, w_isCut, w_written)) : Mi l yX11_writeChapters wsX11_writeChapters (rmD 14) D (gq_ty cI cJ cZ cO) z [.ref h_t_] [(h_t_, .inr (11, [.ref h_a, .ref h_fresh, .ref h_kept, .int v_keptMany, .int v_thrown, .ref h_buffer, .int v_buffered, .int v_size, .int v_at, .int v_behind, .int v_kind, .int v_wrong, .int v_wrongAt, .int v_errorAt, .long v_number, .ref h_worthFrom, .ref h_cutsFrom, .ref h_endFrom, .ref h_changes, .ref h_waysFrom, .int v_toCut, .int v_toLeave, .ref h_costAt, .ref h_places, .ref h_isCut, .ref h_written, .int v_writtenMany])), (h_a, .inl (cJ, 499, .inr (.inl v_a))), (h_worthFrom, .inl (cI, 33, .inl v_worthFrom)), (h_cutsFrom, .inl (cI, 33, .inl v_cutsFrom)), (h_endFrom, .inl (cI, 33, .inl v_endFrom)), (h_changes, .inl (cI, 32, .inl v_changes)), (h_waysFrom, .inl (cJ, 33, .inr (.inl v_waysFrom))), (h_costAt, .inl (cI, 160, .inl v_costAt)), (h_places, .inl (cI, 5, .inl v_places)), (h_isCut, .inl (cZ, 32, .inl v_isCut)), (h_written, .inl (cI, 1200, .inl v_written))] r_ [(h_t_, .inr (11, [.ref h_a, .ref h_fresh, .ref h_kept, .int v_keptMany, .int w_thrown, .ref h_buffer, .int v_buffered, .int v_size, .int v_at, .int v_behind, .int v_kind, .int v_wrong, .int v_wrongAt, .int v_errorAt, .long v_number, .ref h_worthFrom, .ref h_cutsFrom, .ref h_endFrom, .ref h_changes, .ref h_waysFrom, .int v_toCut, .int v_toLeave, .ref h_costAt, .ref h_places, .ref h_isCut, .ref h_written, .int w_writtenMany])), (h_a, .inl (cJ, 499, .inr (.inl v_a))), (h_worthFrom, .inl (cI, 33, .inl w_worthFrom)), (h_cutsFrom, .inl (cI, 33, .inl w_cutsFrom)), (h_endFrom, .inl (cI, 33, .inl w_endFrom)), (h_changes, .inl (cI, 32, .inl w_changes)), (h_waysFrom, .inl (cJ, 33, .inr (.inl w_waysFrom))), (h_costAt, .inl (cI, 160, .inl w_costAt)), (h_places, .inl (cI, 5, .inl w_places)), (h_isCut, .inl (cZ, 32, .inl w_isCut)), (h_written, .inl (cI, 1200, .inl w_written))] 0 0 := by
  refine Mi.of (cc := cX11_writeChapters) (maxL := 5) (by decide) rfl (Nat.le_of_ble_eq_true rfl) ⟨Nat.le_refl 0, Nat.le_refl 0⟩ ?_
  intro p e s m args below meth c A hC ha
  have hin_X11 : ∀ w ∈ wsX110, w ∈ wsX11_writeChapters := by decide +kernel
  have hw_9 : Cond.fieldLink RX11 9 (TX11 0).1 (TX11 0).2.1 (TX11 0).2.2.1 ∈ wsX11_writeChapters := by decide +kernel
  have hw_30 : Cond.fieldLink RX11 30 (TX11 16).1 (TX11 16).2.1 (TX11 16).2.2.1 ∈ wsX11_writeChapters := by decide +kernel
  have hw_79 : Cond.fieldLink RX11 79 (TX11 4).1 (TX11 4).2.1 (TX11 4).2.2.1 ∈ wsX11_writeChapters := by decide +kernel
  have hw_342 : Cond.fieldLink RX11 342 (TX11 26).1 (TX11 26).2.1 (TX11 26).2.2.1 ∈ wsX11_writeChapters := by decide +kernel
  obtain ⟨Q, hQ⟩ : ∃ Q, Q = gq_Qi below D A args s r_ [(h_t_, .inr (11, [.ref h_a, .ref h_fresh, .ref h_kept, .int v_keptMany, .int w_thrown, .ref h_buffer, .int v_buffered, .int v_size, .int v_at, .int v_behind, .int v_kind, .int v_wrong, .int v_wrongAt, .int v_errorAt, .long v_number, .ref h_worthFrom, .ref h_cutsFrom, .ref h_endFrom, .ref h_changes, .ref h_waysFrom, .int v_toCut, .int v_toLeave, .ref h_costAt, .ref h_places, .ref h_isCut, .ref h_written, .int w_writtenMany])), (h_a, .inl (cJ, 499, .inr (.inl v_a))), (h_worthFrom, .inl (cI, 33, .inl w_worthFrom)), (h_cutsFrom, .inl (cI, 33, .inl w_cutsFrom)), (h_endFrom, .inl (cI, 33, .inl w_endFrom)), (h_changes, .inl (cI, 32, .inl w_changes)), (h_waysFrom, .inl (cJ, 33, .inr (.inl w_waysFrom))), (h_costAt, .inl (cI, 160, .inl w_costAt)), (h_places, .inl (cI, 5, .inl w_places)), (h_isCut, .inl (cZ, 32, .inl w_isCut)), (h_written, .inl (cI, 1200, .inl w_written))] 0 0 := ⟨_, rfl⟩
  rw [← hQ]
  refine gq_loc [(0, .ref h_t_)] rfl ?_
  have jb13 : ∀ (st_1 : Int32) (v_thrown_2 : Int32) (v_writtenMany_3 : Int32) (v_worthFrom_4 : Nat → Int32) (v_cutsFrom_5 : Nat → Int32) (v_endFrom_6 : Nat → Int32) (v_changes_7 : Nat → Int32) (v_waysFrom_8 : Nat → Int64) (v_costAt_9 : Nat → Int32) (v_places_10 : Nat → Int32) (v_isCut_11 : Nat → Int32) (v_written_12 : Nat → Int32), F_X11_writeChapters_b13 st_1 v_thrown_2 v_toCut v_toLeave v_writtenMany_3 v_a v_worthFrom_4 v_cutsFrom_5 v_endFrom_6 v_changes_7 v_waysFrom_8 v_costAt_9 v_places_10 v_isCut_11 v_written_12 = some (r_, w_thrown, w_writtenMany, w_worthFrom, w_cutsFrom, w_endFrom, w_changes, w_waysFrom, w_costAt, w_places, w_isCut, w_written) → Gx p l e (rmD 14) s m args below meth c D A 5 Q 0 0 13 [(0, .ref h_t_)] [.int st_1, .ref h_t_] [(h_t_, .inr (11, [.ref h_a, .ref h_fresh, .ref h_kept, .int v_keptMany, .int v_thrown_2, .ref h_buffer, .int v_buffered, .int v_size, .int v_at, .int v_behind, .int v_kind, .int v_wrong, .int v_wrongAt, .int v_errorAt, .long v_number, .ref h_worthFrom, .ref h_cutsFrom, .ref h_endFrom, .ref h_changes, .ref h_waysFrom, .int v_toCut, .int v_toLeave, .ref h_costAt, .ref h_places, .ref h_isCut, .ref h_written, .int v_writtenMany_3])), (h_a, .inl (cJ, 499, .inr (.inl v_a))), (h_worthFrom, .inl (cI, 33, .inl v_worthFrom_4)), (h_cutsFrom, .inl (cI, 33, .inl v_cutsFrom_5)), (h_endFrom, .inl (cI, 33, .inl v_endFrom_6)), (h_changes, .inl (cI, 32, .inl v_changes_7)), (h_waysFrom, .inl (cJ, 33, .inr (.inl v_waysFrom_8))), (h_costAt, .inl (cI, 160, .inl v_costAt_9)), (h_places, .inl (cI, 5, .inl v_places_10)), (h_isCut, .inl (cZ, 32, .inl v_isCut_11)), (h_written, .inl (cI, 1200, .inl v_written_12))] := by
    intro st_1 v_thrown_2 v_writtenMany_3 v_worthFrom_4 v_cutsFrom_5 v_endFrom_6 v_changes_7 v_waysFrom_8 v_costAt_9 v_places_10 v_isCut_11 v_written_12 hF
    unfold F_X11_writeChapters_b13 at hF
    refine gq_put1 hC (kf := 4) 0 [(h_t_, .inr (11, [.ref h_a, .ref h_fresh, .ref h_kept, .int v_keptMany, .int st_1, .ref h_buffer, .int v_buffered, .int v_size, .int v_at, .int v_behind, .int v_kind, .int v_wrong, .int v_wrongAt, .int v_errorAt, .long v_number, .ref h_worthFrom, .ref h_cutsFrom, .ref h_endFrom, .ref h_changes, .ref h_waysFrom, .int v_toCut, .int v_toLeave, .ref h_costAt, .ref h_places, .ref h_isCut, .ref h_written, .int v_writtenMany_3])), (h_a, .inl (cJ, 499, .inr (.inl v_a))), (h_worthFrom, .inl (cI, 33, .inl v_worthFrom_4)), (h_cutsFrom, .inl (cI, 33, .inl v_cutsFrom_5)), (h_endFrom, .inl (cI, 33, .inl v_endFrom_6)), (h_changes, .inl (cI, 32, .inl v_changes_7)), (h_waysFrom, .inl (cJ, 33, .inr (.inl v_waysFrom_8))), (h_costAt, .inl (cI, 160, .inl v_costAt_9)), (h_places, .inl (cI, 5, .inl v_places_10)), (h_isCut, .inl (cZ, 32, .inl v_isCut_11)), (h_written, .inl (cI, 1200, .inl v_written_12))] tyX11 tyX11_ok nmX11 hin_X11 rfl rfl (by decide) hw_79 rfl rfl rfl (Nat.le_of_ble_eq_true rfl) dX11_writeChapters_13 rfl ?_
    refine gq_aload_n hC 0 dX11_writeChapters_16 rfl rfl ?_
    refine gq_get hC (kf := 4) 0 hin_X11 rfl rfl (by decide) hw_79 rfl dX11_writeChapters_17 ?_
    refine gq_if_le hC 25 dX11_writeChapters_20 (by decide) (fun hc_93 => ?_) (fun hc_93 => ?_)
    · have hF := (if_pos hc_93).symm.trans hF
      refine gq_aload_n hC 0 dX11_writeChapters_25 rfl rfl ?_
      refine gq_iconst hC (0 : Int32) dX11_writeChapters_26 (by decide) ?_
      refine gq_put1 hC (kf := 26) 0 [(h_t_, .inr (11, [.ref h_a, .ref h_fresh, .ref h_kept, .int v_keptMany, .int st_1, .ref h_buffer, .int v_buffered, .int v_size, .int v_at, .int v_behind, .int v_kind, .int v_wrong, .int v_wrongAt, .int v_errorAt, .long v_number, .ref h_worthFrom, .ref h_cutsFrom, .ref h_endFrom, .ref h_changes, .ref h_waysFrom, .int v_toCut, .int v_toLeave, .ref h_costAt, .ref h_places, .ref h_isCut, .ref h_written, .int (0 : Int32)])), (h_a, .inl (cJ, 499, .inr (.inl v_a))), (h_worthFrom, .inl (cI, 33, .inl v_worthFrom_4)), (h_cutsFrom, .inl (cI, 33, .inl v_cutsFrom_5)), (h_endFrom, .inl (cI, 33, .inl v_endFrom_6)), (h_changes, .inl (cI, 32, .inl v_changes_7)), (h_waysFrom, .inl (cJ, 33, .inr (.inl v_waysFrom_8))), (h_costAt, .inl (cI, 160, .inl v_costAt_9)), (h_places, .inl (cI, 5, .inl v_places_10)), (h_isCut, .inl (cZ, 32, .inl v_isCut_11)), (h_written, .inl (cI, 1200, .inl v_written_12))] tyX11 tyX11_ok nmX11 hin_X11 rfl rfl (by decide) hw_342 rfl rfl rfl (Nat.le_of_ble_eq_true rfl) dX11_writeChapters_27 rfl ?_
      refine gq_aload_n hC 0 dX11_writeChapters_30 rfl rfl ?_
      refine gq_get hC (kf := 16) 0 hin_X11 rfl rfl (by decide) hw_30 rfl dX11_writeChapters_31 ?_
      refine gq_iconst hC (0 : Int32) dX11_writeChapters_34 (by decide) ?_
      obtain ⟨hi_13, hF⟩ := gi_e hF
      refine gq_iald hC 3 0 rfl rfl hi_13 dX11_writeChapters_35 ?_
      refine gq_istore_n hC [(1, .int (v_cutsFrom_5 (0 : Int32).toNatClampNeg)), (0, .ref h_t_)] dX11_writeChapters_36 rfl (by decide) rfl ?_
      refine gq_iconst hC (0 : Int32) dX11_writeChapters_37 (by decide) ?_
      refine gq_istore_n hC [(2, .int (0 : Int32)), (1, .int (v_cutsFrom_5 (0 : Int32).toNatClampNeg)), (0, .ref h_t_)] dX11_writeChapters_38 rfl (by decide) rfl ?_
      have lp39 : ∀ (l1_14 : Int32) (v_thrown_16 : Int32), ∀ (e_73 : (Int32)) (e_74 : (Nat → Int32)) (e_75 : (Nat → Int32)) (e_76 : (Nat → Int32)) (e_77 : (Nat → Int32)) (e_78 : (Nat → Int64)) (e_79 : (Nat → Int32)) (e_80 : (Nat → Int32)) (e_81 : (Nat → Int32)) (e_82 : (Nat → Int32)), Gx p l e (rmD 14) s m args below meth c D A 5 Q 0 0 130 [(0, .ref h_t_)] [] [(h_t_, .inr (11, [.ref h_a, .ref h_fresh, .ref h_kept, .int v_keptMany, .int v_thrown_16, .ref h_buffer, .int v_buffered, .int v_size, .int v_at, .int v_behind, .int v_kind, .int v_wrong, .int v_wrongAt, .int v_errorAt, .long v_number, .ref h_worthFrom, .ref h_cutsFrom, .ref h_endFrom, .ref h_changes, .ref h_waysFrom, .int v_toCut, .int v_toLeave, .ref h_costAt, .ref h_places, .ref h_isCut, .ref h_written, .int e_73])), (h_a, .inl (cJ, 499, .inr (.inl v_a))), (h_worthFrom, .inl (cI, 33, .inl e_74)), (h_cutsFrom, .inl (cI, 33, .inl e_75)), (h_endFrom, .inl (cI, 33, .inl e_76)), (h_changes, .inl (cI, 32, .inl e_77)), (h_waysFrom, .inl (cJ, 33, .inr (.inl e_78))), (h_costAt, .inl (cI, 160, .inl e_79)), (h_places, .inl (cI, 5, .inl e_80)), (h_isCut, .inl (cZ, 32, .inl e_81)), (h_written, .inl (cI, 1200, .inl e_82))] → ∀ (N : Nat) (l2_15 : Int32) (v_writtenMany_17 : Int32) (v_worthFrom_18 : Nat → Int32) (v_cutsFrom_19 : Nat → Int32) (v_endFrom_20 : Nat → Int32) (v_changes_21 : Nat → Int32) (v_waysFrom_22 : Nat → Int64) (v_costAt_23 : Nat → Int32) (v_places_24 : Nat → Int32) (v_isCut_25 : Nat → Int32) (v_written_26 : Nat → Int32), wh (fun k q => S_X11_writeChapters_39 l1_14 v_thrown_16 v_toCut v_toLeave v_a k q.1 q.2.1 q.2.2.1 q.2.2.2.1 q.2.2.2.2.1 q.2.2.2.2.2.1 q.2.2.2.2.2.2.1 q.2.2.2.2.2.2.2.1 q.2.2.2.2.2.2.2.2.1 q.2.2.2.2.2.2.2.2.2.1 q.2.2.2.2.2.2.2.2.2.2) N (l2_15, v_writtenMany_17, v_worthFrom_18, v_cutsFrom_19, v_endFrom_20, v_changes_21, v_waysFrom_22, v_costAt_23, v_places_24, v_isCut_25, v_written_26) = some (e_73, e_74, e_75, e_76, e_77, e_78, e_79, e_80, e_81, e_82) → Gx p l e (rmD 14) s m args below meth c D A 5 Q 0 0 39 [(0, .ref h_t_), (1, .int l1_14), (2, .int l2_15)] [] [(h_t_, .inr (11, [.ref h_a, .ref h_fresh, .ref h_kept, .int v_keptMany, .int v_thrown_16, .ref h_buffer, .int v_buffered, .int v_size, .int v_at, .int v_behind, .int v_kind, .int v_wrong, .int v_wrongAt, .int v_errorAt, .long v_number, .ref h_worthFrom, .ref h_cutsFrom, .ref h_endFrom, .ref h_changes, .ref h_waysFrom, .int v_toCut, .int v_toLeave, .ref h_costAt, .ref h_places, .ref h_isCut, .ref h_written, .int v_writtenMany_17])), (h_a, .inl (cJ, 499, .inr (.inl v_a))), (h_worthFrom, .inl (cI, 33, .inl v_worthFrom_18)), (h_cutsFrom, .inl (cI, 33, .inl v_cutsFrom_19)), (h_endFrom, .inl (cI, 33, .inl v_endFrom_20)), (h_changes, .inl (cI, 32, .inl v_changes_21)), (h_waysFrom, .inl (cJ, 33, .inr (.inl v_waysFrom_22))), (h_costAt, .inl (cI, 160, .inl v_costAt_23)), (h_places, .inl (cI, 5, .inl v_places_24)), (h_isCut, .inl (cZ, 32, .inl v_isCut_25)), (h_written, .inl (cI, 1200, .inl v_written_26))] := by
        intro l1_14 v_thrown_16 e_73 e_74 e_75 e_76 e_77 e_78 e_79 e_80 e_81 e_82 hx0 N
        induction N with
        | zero => intro l2_15 v_writtenMany_17 v_worthFrom_18 v_cutsFrom_19 v_endFrom_20 v_changes_21 v_waysFrom_22 v_costAt_23 v_places_24 v_isCut_25 v_written_26 hw; exact absurd hw (wh_0 _ _ _)
        | succ N ih =>
          intro l2_15 v_writtenMany_17 v_worthFrom_18 v_cutsFrom_19 v_endFrom_20 v_changes_21 v_waysFrom_22 v_costAt_23 v_places_24 v_isCut_25 v_written_26 hw
          have hF : S_X11_writeChapters_39 l1_14 v_thrown_16 v_toCut v_toLeave v_a (wh (fun k q => S_X11_writeChapters_39 l1_14 v_thrown_16 v_toCut v_toLeave v_a k q.1 q.2.1 q.2.2.1 q.2.2.2.1 q.2.2.2.2.1 q.2.2.2.2.2.1 q.2.2.2.2.2.2.1 q.2.2.2.2.2.2.2.1 q.2.2.2.2.2.2.2.2.1 q.2.2.2.2.2.2.2.2.2.1 q.2.2.2.2.2.2.2.2.2.2) N) l2_15 v_writtenMany_17 v_worthFrom_18 v_cutsFrom_19 v_endFrom_20 v_changes_21 v_waysFrom_22 v_costAt_23 v_places_24 v_isCut_25 v_written_26 = some (e_73, e_74, e_75, e_76, e_77, e_78, e_79, e_80, e_81, e_82) := hw
          unfold S_X11_writeChapters_39 at hF
          refine gq_iload_n hC 2 dX11_writeChapters_39 rfl rfl ?_
          refine gq_iload_n hC 1 dX11_writeChapters_40 rfl rfl ?_
          refine gq_icmp_gt hC 130 dX11_writeChapters_41 (by decide) (fun hc_72 => ?_) (fun hc_72 => ?_)
          · have hF := (if_pos hc_72).symm.trans hF
            refine gq_sub [(0, .ref h_t_)] [0] rfl ?_
            cases hF
            exact hx0
          · have hF := (if_neg hc_72).symm.trans hF
            refine gq_aload_n hC 0 dX11_writeChapters_44 rfl rfl ?_
            refine gq_aload_n hC 0 dX11_writeChapters_45 rfl rfl ?_
            refine gq_aload_n hC 0 dX11_writeChapters_46 rfl rfl ?_
            refine gq_iload_n hC 2 dX11_writeChapters_47 rfl rfl ?_
            obtain ⟨r_27, hc_, hF⟩ := ob1_e hF
            refine gq_callVi hC [0, 4] [(h_t_, .inr (11, [.ref h_a, .ref h_fresh, .ref h_kept, .int v_keptMany, .int v_thrown_16, .ref h_buffer, .int v_buffered, .int v_size, .int v_at, .int v_behind, .int v_kind, .int v_wrong, .int v_wrongAt, .int v_errorAt, .long v_number, .ref h_worthFrom, .ref h_cutsFrom, .ref h_endFrom, .ref h_changes, .ref h_waysFrom, .int v_toCut, .int v_toLeave, .ref h_costAt, .ref h_places, .ref h_isCut, .ref h_written, .int v_writtenMany_17])), (h_a, .inl (cJ, 499, .inr (.inl v_a))), (h_worthFrom, .inl (cI, 33, .inl v_worthFrom_18)), (h_cutsFrom, .inl (cI, 33, .inl v_cutsFrom_19)), (h_endFrom, .inl (cI, 33, .inl v_endFrom_20)), (h_changes, .inl (cI, 32, .inl v_changes_21)), (h_waysFrom, .inl (cJ, 33, .inr (.inl v_waysFrom_22))), (h_costAt, .inl (cI, 160, .inl v_costAt_23)), (h_places, .inl (cI, 5, .inl v_places_24)), (h_isCut, .inl (cZ, 32, .inl v_isCut_25)), (h_written, .inl (cI, 1200, .inl v_written_26))] [.int l2_15] [.ref h_t_, .ref h_t_] (k_X11_beginOf l D cI cJ cZ cO z h_t_ h_endFrom h_a h_fresh h_kept h_buffer h_worthFrom h_cutsFrom h_changes h_waysFrom h_costAt h_places h_isCut h_written l2_15 v_keptMany v_thrown_16 v_buffered v_size v_at v_behind v_kind v_wrong v_wrongAt v_errorAt v_number v_toCut v_toLeave v_writtenMany_17 v_endFrom_20 r_27 hc_) gX11_writeChapters_X11_beginOf rfl ⟨rfl, rfl⟩ hy_X11_beginOf ⟨Nat.le_of_ble_eq_true rfl, Nat.le_of_ble_eq_true rfl⟩ rfl rfl rfl (q0 := 0) rfl rfl rfl (Nat.le_of_ble_eq_true rfl) rfl dX11_writeChapters_48 rfl rfl ?_
            obtain ⟨r_28, v_worthFrom_29, v_cutsFrom_30, v_endFrom_31, v_changes_32, v_waysFrom_33, v_costAt_34, v_places_35, v_isCut_36, hc_, hF⟩ := ob9_e hF
            refine gq_callVi hC [0, 1, 2, 3, 4, 5, 6, 7, 8, 9] [(h_t_, .inr (11, [.ref h_a, .ref h_fresh, .ref h_kept, .int v_keptMany, .int v_thrown_16, .ref h_buffer, .int v_buffered, .int v_size, .int v_at, .int v_behind, .int v_kind, .int v_wrong, .int v_wrongAt, .int v_errorAt, .long v_number, .ref h_worthFrom, .ref h_cutsFrom, .ref h_endFrom, .ref h_changes, .ref h_waysFrom, .int v_toCut, .int v_toLeave, .ref h_costAt, .ref h_places, .ref h_isCut, .ref h_written, .int v_writtenMany_17])), (h_a, .inl (cJ, 499, .inr (.inl v_a))), (h_worthFrom, .inl (cI, 33, .inl v_worthFrom_29)), (h_cutsFrom, .inl (cI, 33, .inl v_cutsFrom_30)), (h_endFrom, .inl (cI, 33, .inl v_endFrom_31)), (h_changes, .inl (cI, 32, .inl v_changes_32)), (h_waysFrom, .inl (cJ, 33, .inr (.inl v_waysFrom_33))), (h_costAt, .inl (cI, 160, .inl v_costAt_34)), (h_places, .inl (cI, 5, .inl v_places_35)), (h_isCut, .inl (cZ, 32, .inl v_isCut_36)), (h_written, .inl (cI, 1200, .inl v_written_26))] [.int r_27] [.ref h_t_] (k_X11_realTime l D cI cJ cZ cO z h_t_ h_a h_worthFrom h_cutsFrom h_endFrom h_changes h_waysFrom h_costAt h_places h_isCut h_fresh h_kept h_buffer h_written r_27 v_keptMany v_thrown_16 v_buffered v_size v_at v_behind v_kind v_wrong v_wrongAt v_errorAt v_number v_toCut v_toLeave v_writtenMany_17 v_a v_worthFrom_18 v_cutsFrom_19 v_endFrom_20 v_changes_21 v_waysFrom_22 v_costAt_23 v_places_24 v_isCut_25 r_28 v_worthFrom_29 v_cutsFrom_30 v_endFrom_31 v_changes_32 v_waysFrom_33 v_costAt_34 v_places_35 v_isCut_36 hc_) gX11_writeChapters_X11_realTime rfl ⟨rfl, rfl⟩ hy_X11_realTime ⟨Nat.le_of_ble_eq_true rfl, Nat.le_of_ble_eq_true rfl⟩ rfl rfl rfl (q0 := 0) rfl rfl rfl (Nat.le_of_ble_eq_true rfl) rfl dX11_writeChapters_51 rfl rfl ?_
            obtain ⟨v_writtenMany_37, v_written_38, hc_, hF⟩ := ob2_e hF
            refine gq_callVv hC [0, 10] [(h_t_, .inr (11, [.ref h_a, .ref h_fresh, .ref h_kept, .int v_keptMany, .int v_thrown_16, .ref h_buffer, .int v_buffered, .int v_size, .int v_at, .int v_behind, .int v_kind, .int v_wrong, .int v_wrongAt, .int v_errorAt, .long v_number, .ref h_worthFrom, .ref h_cutsFrom, .ref h_endFrom, .ref h_changes, .ref h_waysFrom, .int v_toCut, .int v_toLeave, .ref h_costAt, .ref h_places, .ref h_isCut, .ref h_written, .int v_writtenMany_37])), (h_a, .inl (cJ, 499, .inr (.inl v_a))), (h_worthFrom, .inl (cI, 33, .inl v_worthFrom_29)), (h_cutsFrom, .inl (cI, 33, .inl v_cutsFrom_30)), (h_endFrom, .inl (cI, 33, .inl v_endFrom_31)), (h_changes, .inl (cI, 32, .inl v_changes_32)), (h_waysFrom, .inl (cJ, 33, .inr (.inl v_waysFrom_33))), (h_costAt, .inl (cI, 160, .inl v_costAt_34)), (h_places, .inl (cI, 5, .inl v_places_35)), (h_isCut, .inl (cZ, 32, .inl v_isCut_36)), (h_written, .inl (cI, 1200, .inl v_written_38))] [.int r_28] [] (k_X11_saysNumber l D cI cJ cZ cO z h_t_ h_written h_a h_fresh h_kept h_buffer h_worthFrom h_cutsFrom h_endFrom h_changes h_waysFrom h_costAt h_places h_isCut 12 r_28 v_keptMany v_thrown_16 v_buffered v_size v_at v_behind v_kind v_wrong v_wrongAt v_errorAt v_number v_toCut v_toLeave v_writtenMany_17 v_written_26 v_writtenMany_37 v_written_38 hc_) gX11_writeChapters_X11_saysNumber rfl ⟨rfl, rfl⟩ hy_X11_saysNumber ⟨Nat.le_of_ble_eq_true rfl, Nat.le_of_ble_eq_true rfl⟩ rfl rfl rfl (q0 := 0) rfl rfl rfl (Nat.le_of_ble_eq_true rfl) rfl dX11_writeChapters_54 rfl rfl ?_
            refine gq_aload_n hC 0 dX11_writeChapters_57 rfl rfl ?_
            refine gq_bipush hC (32 : Int32) dX11_writeChapters_58 (by decide) ?_
            obtain ⟨v_writtenMany_39, v_written_40, hc_, hF⟩ := ob2_e hF
            refine gq_callVv hC [0, 10] [(h_t_, .inr (11, [.ref h_a, .ref h_fresh, .ref h_kept, .int v_keptMany, .int v_thrown_16, .ref h_buffer, .int v_buffered, .int v_size, .int v_at, .int v_behind, .int v_kind, .int v_wrong, .int v_wrongAt, .int v_errorAt, .long v_number, .ref h_worthFrom, .ref h_cutsFrom, .ref h_endFrom, .ref h_changes, .ref h_waysFrom, .int v_toCut, .int v_toLeave, .ref h_costAt, .ref h_places, .ref h_isCut, .ref h_written, .int v_writtenMany_39])), (h_a, .inl (cJ, 499, .inr (.inl v_a))), (h_worthFrom, .inl (cI, 33, .inl v_worthFrom_29)), (h_cutsFrom, .inl (cI, 33, .inl v_cutsFrom_30)), (h_endFrom, .inl (cI, 33, .inl v_endFrom_31)), (h_changes, .inl (cI, 32, .inl v_changes_32)), (h_waysFrom, .inl (cJ, 33, .inr (.inl v_waysFrom_33))), (h_costAt, .inl (cI, 160, .inl v_costAt_34)), (h_places, .inl (cI, 5, .inl v_places_35)), (h_isCut, .inl (cZ, 32, .inl v_isCut_36)), (h_written, .inl (cI, 1200, .inl v_written_40))] [.int (32 : Int32)] [] (k_X11_says l D cI cJ cZ cO z h_t_ h_written h_a h_fresh h_kept h_buffer h_worthFrom h_cutsFrom h_endFrom h_changes h_waysFrom h_costAt h_places h_isCut (32 : Int32) v_keptMany v_thrown_16 v_buffered v_size v_at v_behind v_kind v_wrong v_wrongAt v_errorAt v_number v_toCut v_toLeave v_writtenMany_37 v_written_38 v_writtenMany_39 v_written_40 hc_) gX11_writeChapters_X11_says rfl ⟨rfl, rfl⟩ hy_X11_says ⟨Nat.le_of_ble_eq_true rfl, Nat.le_of_ble_eq_true rfl⟩ rfl rfl rfl (q0 := 0) rfl rfl rfl (Nat.le_of_ble_eq_true rfl) rfl dX11_writeChapters_60 rfl rfl ?_
            refine gq_iconst hC (0 : Int32) dX11_writeChapters_63 (by decide) ?_
            refine gq_istore_n hC [(3, .int (0 : Int32)), (0, .ref h_t_), (1, .int l1_14), (2, .int l2_15)] dX11_writeChapters_64 rfl (by decide) rfl ?_
            have lp65 : ∀ (l2_41 : Int32) (v_worthFrom_44 : Nat → Int32) (v_cutsFrom_45 : Nat → Int32) (v_endFrom_46 : Nat → Int32) (v_changes_47 : Nat → Int32) (v_waysFrom_48 : Nat → Int64) (v_costAt_49 : Nat → Int32) (v_places_50 : Nat → Int32) (v_isCut_51 : Nat → Int32), ∀ (e_66 : (Int32)) (e_67 : (Nat → Int32)), Gx p l e (rmD 14) s m args below meth c D A 5 Q 0 0 118 [(0, .ref h_t_), (1, .int l1_14), (2, .int l2_41)] [] [(h_t_, .inr (11, [.ref h_a, .ref h_fresh, .ref h_kept, .int v_keptMany, .int v_thrown_16, .ref h_buffer, .int v_buffered, .int v_size, .int v_at, .int v_behind, .int v_kind, .int v_wrong, .int v_wrongAt, .int v_errorAt, .long v_number, .ref h_worthFrom, .ref h_cutsFrom, .ref h_endFrom, .ref h_changes, .ref h_waysFrom, .int v_toCut, .int v_toLeave, .ref h_costAt, .ref h_places, .ref h_isCut, .ref h_written, .int e_66])), (h_a, .inl (cJ, 499, .inr (.inl v_a))), (h_worthFrom, .inl (cI, 33, .inl v_worthFrom_44)), (h_cutsFrom, .inl (cI, 33, .inl v_cutsFrom_45)), (h_endFrom, .inl (cI, 33, .inl v_endFrom_46)), (h_changes, .inl (cI, 32, .inl v_changes_47)), (h_waysFrom, .inl (cJ, 33, .inr (.inl v_waysFrom_48))), (h_costAt, .inl (cI, 160, .inl v_costAt_49)), (h_places, .inl (cI, 5, .inl v_places_50)), (h_isCut, .inl (cZ, 32, .inl v_isCut_51)), (h_written, .inl (cI, 1200, .inl e_67))] → ∀ (N : Nat) (l3_42 : Int32) (v_writtenMany_43 : Int32) (v_written_52 : Nat → Int32), wh (fun k q => S_X11_writeChapters_65 l1_14 l2_41 v_thrown_16 v_toCut v_toLeave v_a v_worthFrom_44 v_cutsFrom_45 v_endFrom_46 v_changes_47 v_waysFrom_48 v_costAt_49 v_places_50 v_isCut_51 k q.1 q.2.1 q.2.2) N (l3_42, v_writtenMany_43, v_written_52) = some (e_66, e_67) → Gx p l e (rmD 14) s m args below meth c D A 5 Q 0 0 65 [(0, .ref h_t_), (1, .int l1_14), (2, .int l2_41), (3, .int l3_42)] [] [(h_t_, .inr (11, [.ref h_a, .ref h_fresh, .ref h_kept, .int v_keptMany, .int v_thrown_16, .ref h_buffer, .int v_buffered, .int v_size, .int v_at, .int v_behind, .int v_kind, .int v_wrong, .int v_wrongAt, .int v_errorAt, .long v_number, .ref h_worthFrom, .ref h_cutsFrom, .ref h_endFrom, .ref h_changes, .ref h_waysFrom, .int v_toCut, .int v_toLeave, .ref h_costAt, .ref h_places, .ref h_isCut, .ref h_written, .int v_writtenMany_43])), (h_a, .inl (cJ, 499, .inr (.inl v_a))), (h_worthFrom, .inl (cI, 33, .inl v_worthFrom_44)), (h_cutsFrom, .inl (cI, 33, .inl v_cutsFrom_45)), (h_endFrom, .inl (cI, 33, .inl v_endFrom_46)), (h_changes, .inl (cI, 32, .inl v_changes_47)), (h_waysFrom, .inl (cJ, 33, .inr (.inl v_waysFrom_48))), (h_costAt, .inl (cI, 160, .inl v_costAt_49)), (h_places, .inl (cI, 5, .inl v_places_50)), (h_isCut, .inl (cZ, 32, .inl v_isCut_51)), (h_written, .inl (cI, 1200, .inl v_written_52))] := by
              intro l2_41 v_worthFrom_44 v_cutsFrom_45 v_endFrom_46 v_changes_47 v_waysFrom_48 v_costAt_49 v_places_50 v_isCut_51 e_66 e_67 hx0 N
              induction N with
              | zero => intro l3_42 v_writtenMany_43 v_written_52 hw; exact absurd hw (wh_0 _ _ _)
              | succ N ih =>
                have jb97 : ∀ (l3_53 : Int32) (l4_54 : Int32) (v_writtenMany_55 : Int32) (v_written_56 : Nat → Int32), F_X11_writeChapters_b97 (wh (fun k q => S_X11_writeChapters_65 l1_14 l2_41 v_thrown_16 v_toCut v_toLeave v_a v_worthFrom_44 v_cutsFrom_45 v_endFrom_46 v_changes_47 v_waysFrom_48 v_costAt_49 v_places_50 v_isCut_51 k q.1 q.2.1 q.2.2) N) l1_14 l2_41 l3_53 l4_54 v_thrown_16 v_toCut v_toLeave v_writtenMany_55 v_a v_worthFrom_44 v_cutsFrom_45 v_endFrom_46 v_changes_47 v_waysFrom_48 v_costAt_49 v_places_50 v_isCut_51 v_written_56 = some (e_66, e_67) → Gx p l e (rmD 14) s m args below meth c D A 5 Q 0 0 97 [(0, .ref h_t_), (1, .int l1_14), (2, .int l2_41), (3, .int l3_53), (4, .int l4_54)] [] [(h_t_, .inr (11, [.ref h_a, .ref h_fresh, .ref h_kept, .int v_keptMany, .int v_thrown_16, .ref h_buffer, .int v_buffered, .int v_size, .int v_at, .int v_behind, .int v_kind, .int v_wrong, .int v_wrongAt, .int v_errorAt, .long v_number, .ref h_worthFrom, .ref h_cutsFrom, .ref h_endFrom, .ref h_changes, .ref h_waysFrom, .int v_toCut, .int v_toLeave, .ref h_costAt, .ref h_places, .ref h_isCut, .ref h_written, .int v_writtenMany_55])), (h_a, .inl (cJ, 499, .inr (.inl v_a))), (h_worthFrom, .inl (cI, 33, .inl v_worthFrom_44)), (h_cutsFrom, .inl (cI, 33, .inl v_cutsFrom_45)), (h_endFrom, .inl (cI, 33, .inl v_endFrom_46)), (h_changes, .inl (cI, 32, .inl v_changes_47)), (h_waysFrom, .inl (cJ, 33, .inr (.inl v_waysFrom_48))), (h_costAt, .inl (cI, 160, .inl v_costAt_49)), (h_places, .inl (cI, 5, .inl v_places_50)), (h_isCut, .inl (cZ, 32, .inl v_isCut_51)), (h_written, .inl (cI, 1200, .inl v_written_56))] := by
                  intro l3_53 l4_54 v_writtenMany_55 v_written_56 hF
                  unfold F_X11_writeChapters_b97 at hF
                  refine gq_aload_n hC 0 dX11_writeChapters_97 rfl rfl ?_
                  refine gq_aload_n hC 0 dX11_writeChapters_98 rfl rfl ?_
                  refine gq_get hC (kf := 0) 0 hin_X11 rfl rfl (by decide) hw_9 rfl dX11_writeChapters_99 ?_
                  refine gq_sipush hC (475 : Int32) dX11_writeChapters_102 (by decide) ?_
                  refine gq_iload hC 4 dX11_writeChapters_105 rfl ?_
                  refine gq_iadd hC dX11_writeChapters_107 ?_
                  obtain ⟨hi_57, hF⟩ := gi_e hF
                  refine gq_lald hC 1 1 rfl rfl hi_57 dX11_writeChapters_108 ?_
                  obtain ⟨v_writtenMany_58, v_written_59, hc_, hF⟩ := ob2_e hF
                  refine gq_callVv hC [0, 10] [(h_t_, .inr (11, [.ref h_a, .ref h_fresh, .ref h_kept, .int v_keptMany, .int v_thrown_16, .ref h_buffer, .int v_buffered, .int v_size, .int v_at, .int v_behind, .int v_kind, .int v_wrong, .int v_wrongAt, .int v_errorAt, .long v_number, .ref h_worthFrom, .ref h_cutsFrom, .ref h_endFrom, .ref h_changes, .ref h_waysFrom, .int v_toCut, .int v_toLeave, .ref h_costAt, .ref h_places, .ref h_isCut, .ref h_written, .int v_writtenMany_58])), (h_a, .inl (cJ, 499, .inr (.inl v_a))), (h_worthFrom, .inl (cI, 33, .inl v_worthFrom_44)), (h_cutsFrom, .inl (cI, 33, .inl v_cutsFrom_45)), (h_endFrom, .inl (cI, 33, .inl v_endFrom_46)), (h_changes, .inl (cI, 32, .inl v_changes_47)), (h_waysFrom, .inl (cJ, 33, .inr (.inl v_waysFrom_48))), (h_costAt, .inl (cI, 160, .inl v_costAt_49)), (h_places, .inl (cI, 5, .inl v_places_50)), (h_isCut, .inl (cZ, 32, .inl v_isCut_51)), (h_written, .inl (cI, 1200, .inl v_written_59))] [.long (v_a ((475 : Int32) + l4_54).toNatClampNeg)] [] (k_X11_saysName l D cI cJ cZ cO z h_t_ h_written h_a h_fresh h_kept h_buffer h_worthFrom h_cutsFrom h_endFrom h_changes h_waysFrom h_costAt h_places h_isCut 10 (v_a ((475 : Int32) + l4_54).toNatClampNeg) v_keptMany v_thrown_16 v_buffered v_size v_at v_behind v_kind v_wrong v_wrongAt v_errorAt v_number v_toCut v_toLeave v_writtenMany_55 v_written_56 v_writtenMany_58 v_written_59 hc_) gX11_writeChapters_X11_saysName rfl ⟨rfl, rfl⟩ hy_X11_saysName ⟨Nat.le_of_ble_eq_true rfl, Nat.le_of_ble_eq_true rfl⟩ rfl rfl rfl (q0 := 0) rfl rfl rfl (Nat.le_of_ble_eq_true rfl) rfl dX11_writeChapters_109 rfl rfl ?_
                  refine gq_iinc hC 3 (l3_53 + (1 : Int32)) [(3, .int (l3_53 + (1 : Int32))), (0, .ref h_t_), (1, .int l1_14), (2, .int l2_41), (4, .int l4_54)] dX11_writeChapters_112 rfl rfl (by decide) rfl ?_
                  refine gq_goto hC 65 dX11_writeChapters_115 (by decide) ?_
                  refine gq_sub [(0, .ref h_t_), (1, .int l1_14), (2, .int l2_41), (3, .int (l3_53 + (1 : Int32)))] [1, 2, 3, 0] rfl ?_
                  exact ih (l3_53 + (1 : Int32)) v_writtenMany_58 v_written_59 hF
                intro l3_42 v_writtenMany_43 v_written_52 hw
                have hF : S_X11_writeChapters_65 l1_14 l2_41 v_thrown_16 v_toCut v_toLeave v_a v_worthFrom_44 v_cutsFrom_45 v_endFrom_46 v_changes_47 v_waysFrom_48 v_costAt_49 v_places_50 v_isCut_51 (wh (fun k q => S_X11_writeChapters_65 l1_14 l2_41 v_thrown_16 v_toCut v_toLeave v_a v_worthFrom_44 v_cutsFrom_45 v_endFrom_46 v_changes_47 v_waysFrom_48 v_costAt_49 v_places_50 v_isCut_51 k q.1 q.2.1 q.2.2) N) l3_42 v_writtenMany_43 v_written_52 = some (e_66, e_67) := hw
                unfold S_X11_writeChapters_65 at hF
                refine gq_iload_n hC 3 dX11_writeChapters_65 rfl rfl ?_
                refine gq_iconst hC (3 : Int32) dX11_writeChapters_66 (by decide) ?_
                refine gq_icmp_ge hC 118 dX11_writeChapters_67 (by decide) (fun hc_65 => ?_) (fun hc_65 => ?_)
                · have hF := (if_pos hc_65).symm.trans hF
                  refine gq_sub [(0, .ref h_t_), (1, .int l1_14), (2, .int l2_41)] [0, 1, 2] rfl ?_
                  cases hF
                  exact hx0
                · have hF := (if_neg hc_65).symm.trans hF
                  refine gq_aload_n hC 0 dX11_writeChapters_70 rfl rfl ?_
                  refine gq_iload_n hC 2 dX11_writeChapters_71 rfl rfl ?_
                  refine gq_iload_n hC 3 dX11_writeChapters_72 rfl rfl ?_
                  obtain ⟨r_60, hc_, hF⟩ := ob1_e hF
                  refine gq_callVi hC [0, 1, 3, 4] [(h_t_, .inr (11, [.ref h_a, .ref h_fresh, .ref h_kept, .int v_keptMany, .int v_thrown_16, .ref h_buffer, .int v_buffered, .int v_size, .int v_at, .int v_behind, .int v_kind, .int v_wrong, .int v_wrongAt, .int v_errorAt, .long v_number, .ref h_worthFrom, .ref h_cutsFrom, .ref h_endFrom, .ref h_changes, .ref h_waysFrom, .int v_toCut, .int v_toLeave, .ref h_costAt, .ref h_places, .ref h_isCut, .ref h_written, .int v_writtenMany_43])), (h_a, .inl (cJ, 499, .inr (.inl v_a))), (h_worthFrom, .inl (cI, 33, .inl v_worthFrom_44)), (h_cutsFrom, .inl (cI, 33, .inl v_cutsFrom_45)), (h_endFrom, .inl (cI, 33, .inl v_endFrom_46)), (h_changes, .inl (cI, 32, .inl v_changes_47)), (h_waysFrom, .inl (cJ, 33, .inr (.inl v_waysFrom_48))), (h_costAt, .inl (cI, 160, .inl v_costAt_49)), (h_places, .inl (cI, 5, .inl v_places_50)), (h_isCut, .inl (cZ, 32, .inl v_isCut_51)), (h_written, .inl (cI, 1200, .inl v_written_52))] [.int l2_41, .int l3_42] [] (k_X11_titleWord l D cI cJ cZ cO z h_t_ h_a h_cutsFrom h_endFrom h_fresh h_kept h_buffer h_worthFrom h_changes h_waysFrom h_costAt h_places h_isCut h_written l2_41 l3_42 v_keptMany v_thrown_16 v_buffered v_size v_at v_behind v_kind v_wrong v_wrongAt v_errorAt v_number v_toCut v_toLeave v_writtenMany_43 v_a v_cutsFrom_45 v_endFrom_46 r_60 hc_) gX11_writeChapters_X11_titleWord rfl ⟨rfl, rfl⟩ hy_X11_titleWord ⟨Nat.le_of_ble_eq_true rfl, Nat.le_of_ble_eq_true rfl⟩ rfl rfl rfl (q0 := 0) rfl rfl rfl (Nat.le_of_ble_eq_true rfl) rfl dX11_writeChapters_73 rfl rfl ?_
                  refine gq_istore hC [(4, .int r_60), (0, .ref h_t_), (1, .int l1_14), (2, .int l2_41), (3, .int l3_42)] dX11_writeChapters_76 (by decide) rfl ?_
                  refine gq_iload hC 0 dX11_writeChapters_78 rfl ?_
                  refine gq_iconst hC (-1 : Int32) dX11_writeChapters_80 (by decide) ?_
                  refine gq_icmp_ne hC 87 dX11_writeChapters_81 (by decide) (fun hc_64 => ?_) (fun hc_64 => ?_)
                  · have hF := (if_neg hc_64).symm.trans hF
                    refine gq_iload_n hC 4 dX11_writeChapters_87 rfl rfl ?_
                    refine gq_if_le hC 97 dX11_writeChapters_88 (by decide) (fun hc_63 => ?_) (fun hc_63 => ?_)
                    · have hF := (if_pos hc_63).symm.trans hF
                      refine gq_sub [(0, .ref h_t_), (1, .int l1_14), (2, .int l2_41), (3, .int l3_42), (4, .int r_60)] [1, 2, 3, 4, 0] rfl ?_
                      exact jb97 l3_42 r_60 v_writtenMany_43 v_written_52 hF
                    · have hF := (if_neg hc_63).symm.trans hF
                      refine gq_aload_n hC 1 dX11_writeChapters_91 rfl rfl ?_
                      refine gq_bipush hC (45 : Int32) dX11_writeChapters_92 (by decide) ?_
                      obtain ⟨v_writtenMany_61, v_written_62, hc_, hF⟩ := ob2_e hF
                      refine gq_callVv hC [0, 10] [(h_t_, .inr (11, [.ref h_a, .ref h_fresh, .ref h_kept, .int v_keptMany, .int v_thrown_16, .ref h_buffer, .int v_buffered, .int v_size, .int v_at, .int v_behind, .int v_kind, .int v_wrong, .int v_wrongAt, .int v_errorAt, .long v_number, .ref h_worthFrom, .ref h_cutsFrom, .ref h_endFrom, .ref h_changes, .ref h_waysFrom, .int v_toCut, .int v_toLeave, .ref h_costAt, .ref h_places, .ref h_isCut, .ref h_written, .int v_writtenMany_61])), (h_a, .inl (cJ, 499, .inr (.inl v_a))), (h_worthFrom, .inl (cI, 33, .inl v_worthFrom_44)), (h_cutsFrom, .inl (cI, 33, .inl v_cutsFrom_45)), (h_endFrom, .inl (cI, 33, .inl v_endFrom_46)), (h_changes, .inl (cI, 32, .inl v_changes_47)), (h_waysFrom, .inl (cJ, 33, .inr (.inl v_waysFrom_48))), (h_costAt, .inl (cI, 160, .inl v_costAt_49)), (h_places, .inl (cI, 5, .inl v_places_50)), (h_isCut, .inl (cZ, 32, .inl v_isCut_51)), (h_written, .inl (cI, 1200, .inl v_written_62))] [.int (45 : Int32)] [] (k_X11_says l D cI cJ cZ cO z h_t_ h_written h_a h_fresh h_kept h_buffer h_worthFrom h_cutsFrom h_endFrom h_changes h_waysFrom h_costAt h_places h_isCut (45 : Int32) v_keptMany v_thrown_16 v_buffered v_size v_at v_behind v_kind v_wrong v_wrongAt v_errorAt v_number v_toCut v_toLeave v_writtenMany_43 v_written_52 v_writtenMany_61 v_written_62 hc_) gX11_writeChapters_X11_says rfl ⟨rfl, rfl⟩ hy_X11_says ⟨Nat.le_of_ble_eq_true rfl, Nat.le_of_ble_eq_true rfl⟩ rfl rfl rfl (q0 := 0) rfl rfl rfl (Nat.le_of_ble_eq_true rfl) rfl dX11_writeChapters_94 rfl rfl ?_
                      refine gq_sub [(0, .ref h_t_), (1, .int l1_14), (2, .int l2_41), (3, .int l3_42), (4, .int r_60)] [1, 2, 3, 4, 0] rfl ?_
                      exact jb97 l3_42 r_60 v_writtenMany_61 v_written_62 hF
                  · have hF := (if_pos hc_64).symm.trans hF
                    refine gq_goto hC 112 dX11_writeChapters_84 (by decide) ?_
                    refine gq_iinc hC 4 (l3_42 + (1 : Int32)) [(3, .int (l3_42 + (1 : Int32))), (4, .int r_60), (0, .ref h_t_), (1, .int l1_14), (2, .int l2_41)] dX11_writeChapters_112 rfl rfl (by decide) rfl ?_
                    refine gq_goto hC 65 dX11_writeChapters_115 (by decide) ?_
                    refine gq_sub [(0, .ref h_t_), (1, .int l1_14), (2, .int l2_41), (3, .int (l3_42 + (1 : Int32)))] [2, 3, 4, 0] rfl ?_
                    exact ih (l3_42 + (1 : Int32)) v_writtenMany_43 v_written_52 hF
            refine gq_sub [(0, .ref h_t_), (1, .int l1_14), (2, .int l2_15), (3, .int (0 : Int32))] [1, 2, 3, 0] rfl ?_
            obtain ⟨e_68, e_69, hw_, hF⟩ := ob2_e hF
            refine lp65 l2_15 v_worthFrom_29 v_cutsFrom_30 v_endFrom_31 v_changes_32 v_waysFrom_33 v_costAt_34 v_places_35 v_isCut_36 e_68 e_69 ?_ wF (0 : Int32) v_writtenMany_39 v_written_40 hw_
            refine gq_aload_n hC 0 dX11_writeChapters_118 rfl rfl ?_
            refine gq_bipush hC (59 : Int32) dX11_writeChapters_119 (by decide) ?_
            obtain ⟨v_writtenMany_70, v_written_71, hc_, hF⟩ := ob2_e hF
            refine gq_callVv hC [0, 10] [(h_t_, .inr (11, [.ref h_a, .ref h_fresh, .ref h_kept, .int v_keptMany, .int v_thrown_16, .ref h_buffer, .int v_buffered, .int v_size, .int v_at, .int v_behind, .int v_kind, .int v_wrong, .int v_wrongAt, .int v_errorAt, .long v_number, .ref h_worthFrom, .ref h_cutsFrom, .ref h_endFrom, .ref h_changes, .ref h_waysFrom, .int v_toCut, .int v_toLeave, .ref h_costAt, .ref h_places, .ref h_isCut, .ref h_written, .int v_writtenMany_70])), (h_a, .inl (cJ, 499, .inr (.inl v_a))), (h_worthFrom, .inl (cI, 33, .inl v_worthFrom_29)), (h_cutsFrom, .inl (cI, 33, .inl v_cutsFrom_30)), (h_endFrom, .inl (cI, 33, .inl v_endFrom_31)), (h_changes, .inl (cI, 32, .inl v_changes_32)), (h_waysFrom, .inl (cJ, 33, .inr (.inl v_waysFrom_33))), (h_costAt, .inl (cI, 160, .inl v_costAt_34)), (h_places, .inl (cI, 5, .inl v_places_35)), (h_isCut, .inl (cZ, 32, .inl v_isCut_36)), (h_written, .inl (cI, 1200, .inl v_written_71))] [.int (59 : Int32)] [] (k_X11_says l D cI cJ cZ cO z h_t_ h_written h_a h_fresh h_kept h_buffer h_worthFrom h_cutsFrom h_endFrom h_changes h_waysFrom h_costAt h_places h_isCut (59 : Int32) v_keptMany v_thrown_16 v_buffered v_size v_at v_behind v_kind v_wrong v_wrongAt v_errorAt v_number v_toCut v_toLeave e_68 e_69 v_writtenMany_70 v_written_71 hc_) gX11_writeChapters_X11_says rfl ⟨rfl, rfl⟩ hy_X11_says ⟨Nat.le_of_ble_eq_true rfl, Nat.le_of_ble_eq_true rfl⟩ rfl rfl rfl (q0 := 0) rfl rfl rfl (Nat.le_of_ble_eq_true rfl) rfl dX11_writeChapters_121 rfl rfl ?_
            refine gq_iinc hC 2 (l2_15 + (1 : Int32)) [(2, .int (l2_15 + (1 : Int32))), (0, .ref h_t_), (1, .int l1_14)] dX11_writeChapters_124 rfl rfl (by decide) rfl ?_
            refine gq_goto hC 39 dX11_writeChapters_127 (by decide) ?_
            refine gq_sub [(0, .ref h_t_), (1, .int l1_14), (2, .int (l2_15 + (1 : Int32)))] [1, 2, 0] rfl ?_
            exact ih (l2_15 + (1 : Int32)) v_writtenMany_70 v_worthFrom_29 v_cutsFrom_30 v_endFrom_31 v_changes_32 v_waysFrom_33 v_costAt_34 v_places_35 v_isCut_36 v_written_71 hF
      refine gq_sub [(0, .ref h_t_), (1, .int (v_cutsFrom_5 (0 : Int32).toNatClampNeg)), (2, .int (0 : Int32))] [2, 1, 0] rfl ?_
      obtain ⟨e_83, e_84, e_85, e_86, e_87, e_88, e_89, e_90, e_91, e_92, hw_, hF⟩ := ob10_e hF
      refine lp39 (v_cutsFrom_5 (0 : Int32).toNatClampNeg) st_1 e_83 e_84 e_85 e_86 e_87 e_88 e_89 e_90 e_91 e_92 ?_ wF (0 : Int32) (0 : Int32) v_worthFrom_4 v_cutsFrom_5 v_endFrom_6 v_changes_7 v_waysFrom_8 v_costAt_9 v_places_10 v_isCut_11 v_written_12 hw_
      refine gq_aload_n hC 0 dX11_writeChapters_130 rfl rfl ?_
      refine gq_get hC (kf := 26) 0 hin_X11 rfl rfl (by decide) hw_342 rfl dX11_writeChapters_131 ?_
      cases hF
      rw [hQ]
      exact gq_iret hC rfl dX11_writeChapters_134
    · have hF := (if_neg hc_93).symm.trans hF
      refine gq_iconst hC (0 : Int32) dX11_writeChapters_23 (by decide) ?_
      cases hF
      rw [hQ]
      exact gq_iret hC rfl dX11_writeChapters_24
  unfold F_X11_writeChapters at hF
  refine gq_aload_n hC 0 dX11_writeChapters_0 rfl rfl ?_
  refine gq_aload_n hC 0 dX11_writeChapters_1 rfl rfl ?_
  obtain ⟨r_94, v_worthFrom_95, v_cutsFrom_96, v_endFrom_97, v_changes_98, v_waysFrom_99, hc_, hF⟩ := ob6_e hF
  refine gq_callVi hC [0, 1, 2, 3, 4, 5, 6] [(h_t_, .inr (11, [.ref h_a, .ref h_fresh, .ref h_kept, .int v_keptMany, .int v_thrown, .ref h_buffer, .int v_buffered, .int v_size, .int v_at, .int v_behind, .int v_kind, .int v_wrong, .int v_wrongAt, .int v_errorAt, .long v_number, .ref h_worthFrom, .ref h_cutsFrom, .ref h_endFrom, .ref h_changes, .ref h_waysFrom, .int v_toCut, .int v_toLeave, .ref h_costAt, .ref h_places, .ref h_isCut, .ref h_written, .int v_writtenMany])), (h_a, .inl (cJ, 499, .inr (.inl v_a))), (h_worthFrom, .inl (cI, 33, .inl v_worthFrom_95)), (h_cutsFrom, .inl (cI, 33, .inl v_cutsFrom_96)), (h_endFrom, .inl (cI, 33, .inl v_endFrom_97)), (h_changes, .inl (cI, 32, .inl v_changes_98)), (h_waysFrom, .inl (cJ, 33, .inr (.inl v_waysFrom_99))), (h_costAt, .inl (cI, 160, .inl v_costAt)), (h_places, .inl (cI, 5, .inl v_places)), (h_isCut, .inl (cZ, 32, .inl v_isCut)), (h_written, .inl (cI, 1200, .inl v_written))] [] [.ref h_t_] (k_X11_hasBest l D cI cJ cZ cO z h_t_ h_a h_worthFrom h_cutsFrom h_endFrom h_changes h_waysFrom h_fresh h_kept h_buffer h_costAt h_places h_isCut h_written v_keptMany v_thrown v_buffered v_size v_at v_behind v_kind v_wrong v_wrongAt v_errorAt v_number v_toCut v_toLeave v_writtenMany v_a v_worthFrom v_cutsFrom v_endFrom v_changes v_waysFrom r_94 v_worthFrom_95 v_cutsFrom_96 v_endFrom_97 v_changes_98 v_waysFrom_99 hc_) gX11_writeChapters_X11_hasBest rfl ⟨rfl, rfl⟩ hy_X11_hasBest ⟨Nat.le_of_ble_eq_true rfl, Nat.le_of_ble_eq_true rfl⟩ rfl rfl rfl (q0 := 0) rfl rfl rfl (Nat.le_of_ble_eq_true rfl) rfl dX11_writeChapters_2 rfl rfl ?_
  refine gq_if_eq hC 12 dX11_writeChapters_5 (by decide) (fun hc_100 => ?_) (fun hc_100 => ?_)
  · have hF := (if_pos hc_100).symm.trans hF
    refine gq_iconst hC (1 : Int32) dX11_writeChapters_12 (by decide) ?_
    exact jb13 (1 : Int32) v_thrown v_writtenMany v_worthFrom_95 v_cutsFrom_96 v_endFrom_97 v_changes_98 v_waysFrom_99 v_costAt v_places v_isCut v_written hF
  · have hF := (if_neg hc_100).symm.trans hF
    refine gq_iconst hC (0 : Int32) dX11_writeChapters_8 (by decide) ?_
    refine gq_goto hC 13 dX11_writeChapters_9 (by decide) ?_
    exact jb13 (0 : Int32) v_thrown v_writtenMany v_worthFrom_95 v_cutsFrom_96 v_endFrom_97 v_changes_98 v_waysFrom_99 v_costAt v_places v_isCut v_written hF
theorem hy_X11_writtenByte : yX11_writtenByte.cls = RX11 ∧ yX11_writtenByte.cls ≠ "java/lang/invoke/MethodHandle" ∧ yX11_writtenByte.cls ≠ "java/lang/invoke/VarHandle" ∧ (parseMethodDescriptor yX11_writtenByte.desc).map (fun d => d.parameters.length) = some 1 := by decide +kernel
set_option maxRecDepth 20000 in
set_option maxHeartbeats 4000000 in
theorem k_X11_writtenByte (l : Launch) (D : va_G) (cI cJ cZ cO : ClassId) (z : Nat → Nat)   (h_t_ : Nat) (h_written : Nat) (h_a : Nat) (h_fresh : Nat) (h_kept : Nat) (h_buffer : Nat) (h_worthFrom : Nat) (h_cutsFrom : Nat) (h_endFrom : Nat) (h_changes : Nat) (h_waysFrom : Nat) (h_costAt : Nat) (h_places : Nat) (h_isCut : Nat) (x1 : Int32) (v_keptMany : Int32) (v_thrown : Int32) (v_buffered : Int32) (v_size : Int32) (v_at : Int32) (v_behind : Int32) (v_kind : Int32) (v_wrong : Int32) (v_wrongAt : Int32) (v_errorAt : Int32) (v_number : Int64) (v_toCut : Int32) (v_toLeave : Int32) (v_writtenMany : Int32) (v_written : Nat → Int32) (r_ : Int32) (w_thrown : Int32) (hF : F_X11_writtenByte x1 v_thrown v_writtenMany v_written = some (r_, w_thrown)) : Mi l yX11_writtenByte wsX11_writtenByte (rmD 1) D (gq_ty cI cJ cZ cO) z [.ref h_t_, .int x1] [(h_t_, .inr (11, [.ref h_a, .ref h_fresh, .ref h_kept, .int v_keptMany, .int v_thrown, .ref h_buffer, .int v_buffered, .int v_size, .int v_at, .int v_behind, .int v_kind, .int v_wrong, .int v_wrongAt, .int v_errorAt, .long v_number, .ref h_worthFrom, .ref h_cutsFrom, .ref h_endFrom, .ref h_changes, .ref h_waysFrom, .int v_toCut, .int v_toLeave, .ref h_costAt, .ref h_places, .ref h_isCut, .ref h_written, .int v_writtenMany])), (h_written, .inl (cI, 1200, .inl v_written))] r_ [(h_t_, .inr (11, [.ref h_a, .ref h_fresh, .ref h_kept, .int v_keptMany, .int w_thrown, .ref h_buffer, .int v_buffered, .int v_size, .int v_at, .int v_behind, .int v_kind, .int v_wrong, .int v_wrongAt, .int v_errorAt, .long v_number, .ref h_worthFrom, .ref h_cutsFrom, .ref h_endFrom, .ref h_changes, .ref h_waysFrom, .int v_toCut, .int v_toLeave, .ref h_costAt, .ref h_places, .ref h_isCut, .ref h_written, .int v_writtenMany])), (h_written, .inl (cI, 1200, .inl v_written))] 0 0 := by
  refine Mi.of (cc := cX11_writtenByte) (maxL := 2) (by decide) rfl (Nat.le_of_ble_eq_true rfl) ⟨Nat.le_refl 0, Nat.le_refl 0⟩ ?_
  intro p e s m args below meth c A hC ha
  have hin_X11 : ∀ w ∈ wsX110, w ∈ wsX11_writtenByte := by decide +kernel
  have hw_58 : Cond.fieldLink RX11 58 (TX11 25).1 (TX11 25).2.1 (TX11 25).2.2.1 ∈ wsX11_writtenByte := by decide +kernel
  have hw_79 : Cond.fieldLink RX11 79 (TX11 4).1 (TX11 4).2.1 (TX11 4).2.2.1 ∈ wsX11_writtenByte := by decide +kernel
  have hw_342 : Cond.fieldLink RX11 342 (TX11 26).1 (TX11 26).2.1 (TX11 26).2.2.1 ∈ wsX11_writtenByte := by decide +kernel
  obtain ⟨Q, hQ⟩ : ∃ Q, Q = gq_Qi below D A args s r_ [(h_t_, .inr (11, [.ref h_a, .ref h_fresh, .ref h_kept, .int v_keptMany, .int w_thrown, .ref h_buffer, .int v_buffered, .int v_size, .int v_at, .int v_behind, .int v_kind, .int v_wrong, .int v_wrongAt, .int v_errorAt, .long v_number, .ref h_worthFrom, .ref h_cutsFrom, .ref h_endFrom, .ref h_changes, .ref h_waysFrom, .int v_toCut, .int v_toLeave, .ref h_costAt, .ref h_places, .ref h_isCut, .ref h_written, .int v_writtenMany])), (h_written, .inl (cI, 1200, .inl v_written))] 0 0 := ⟨_, rfl⟩
  rw [← hQ]
  refine gq_loc [(0, .ref h_t_), (1, .int x1)] rfl ?_
  have jb22 : ∀ (st_1 : Int32) (v_thrown_2 : Int32), F_X11_writtenByte_b22 x1 st_1 v_thrown_2 v_written = some (r_, w_thrown) → Gx p l e (rmD 1) s m args below meth c D A 2 Q 0 0 22 [(0, .ref h_t_), (1, .int x1)] [.int st_1, .ref h_t_] [(h_t_, .inr (11, [.ref h_a, .ref h_fresh, .ref h_kept, .int v_keptMany, .int v_thrown_2, .ref h_buffer, .int v_buffered, .int v_size, .int v_at, .int v_behind, .int v_kind, .int v_wrong, .int v_wrongAt, .int v_errorAt, .long v_number, .ref h_worthFrom, .ref h_cutsFrom, .ref h_endFrom, .ref h_changes, .ref h_waysFrom, .int v_toCut, .int v_toLeave, .ref h_costAt, .ref h_places, .ref h_isCut, .ref h_written, .int v_writtenMany])), (h_written, .inl (cI, 1200, .inl v_written))] := by
    intro st_1 v_thrown_2 hF
    unfold F_X11_writtenByte_b22 at hF
    refine gq_put1 hC (kf := 4) 0 [(h_t_, .inr (11, [.ref h_a, .ref h_fresh, .ref h_kept, .int v_keptMany, .int st_1, .ref h_buffer, .int v_buffered, .int v_size, .int v_at, .int v_behind, .int v_kind, .int v_wrong, .int v_wrongAt, .int v_errorAt, .long v_number, .ref h_worthFrom, .ref h_cutsFrom, .ref h_endFrom, .ref h_changes, .ref h_waysFrom, .int v_toCut, .int v_toLeave, .ref h_costAt, .ref h_places, .ref h_isCut, .ref h_written, .int v_writtenMany])), (h_written, .inl (cI, 1200, .inl v_written))] tyX11 tyX11_ok nmX11 hin_X11 rfl rfl (by decide) hw_79 rfl rfl rfl (Nat.le_of_ble_eq_true rfl) dX11_writtenByte_22 rfl ?_
    refine gq_aload_n hC 0 dX11_writtenByte_25 rfl rfl ?_
    refine gq_get hC (kf := 4) 0 hin_X11 rfl rfl (by decide) hw_79 rfl dX11_writtenByte_26 ?_
    refine gq_if_le hC 36 dX11_writtenByte_29 (by decide) (fun hc_4 => ?_) (fun hc_4 => ?_)
    · have hF := (if_pos hc_4).symm.trans hF
      refine gq_aload_n hC 0 dX11_writtenByte_36 rfl rfl ?_
      refine gq_get hC (kf := 25) 0 hin_X11 rfl rfl (by decide) hw_58 rfl dX11_writtenByte_37 ?_
      refine gq_iload_n hC 1 dX11_writtenByte_40 rfl rfl ?_
      obtain ⟨hi_3, hF⟩ := gi_e hF
      refine gq_iald hC 1 0 rfl rfl hi_3 dX11_writtenByte_41 ?_
      cases hF
      rw [hQ]
      exact gq_iret hC rfl dX11_writtenByte_42
    · have hF := (if_neg hc_4).symm.trans hF
      refine gq_iconst hC (0 : Int32) dX11_writtenByte_32 (by decide) ?_
      refine gq_goto hC 42 dX11_writtenByte_33 (by decide) ?_
      cases hF
      rw [hQ]
      exact gq_iret hC rfl dX11_writtenByte_42
  unfold F_X11_writtenByte at hF
  refine gq_aload_n hC 0 dX11_writtenByte_0 rfl rfl ?_
  refine gq_iload_n hC 1 dX11_writtenByte_1 rfl rfl ?_
  refine gq_i2l hC dX11_writtenByte_2 ?_
  refine gq_lconst hC (0 : Int64) dX11_writtenByte_3 (by decide) ?_
  refine gq_aload_n hC 0 dX11_writtenByte_4 rfl rfl ?_
  refine gq_get hC (kf := 26) 0 hin_X11 rfl rfl (by decide) hw_342 rfl dX11_writtenByte_5 ?_
  refine gq_iconst hC (1 : Int32) dX11_writtenByte_8 (by decide) ?_
  refine gq_isub hC dX11_writtenByte_9 ?_
  refine gq_i2l hC dX11_writtenByte_10 ?_
  obtain ⟨r_5, hc_, hF⟩ := ob1_e hF
  refine gq_callSi hC [] [(h_t_, .inr (11, [.ref h_a, .ref h_fresh, .ref h_kept, .int v_keptMany, .int v_thrown, .ref h_buffer, .int v_buffered, .int v_size, .int v_at, .int v_behind, .int v_kind, .int v_wrong, .int v_wrongAt, .int v_errorAt, .long v_number, .ref h_worthFrom, .ref h_cutsFrom, .ref h_endFrom, .ref h_changes, .ref h_waysFrom, .int v_toCut, .int v_toLeave, .ref h_costAt, .ref h_places, .ref h_isCut, .ref h_written, .int v_writtenMany])), (h_written, .inl (cI, 1200, .inl v_written))] [.long (x1.toInt64), .long (0 : Int64), .long ((v_writtenMany - (1 : Int32)).toInt64)] [.ref h_t_] (k_X11_isIn l D cI cJ cZ cO z  (x1.toInt64) (0 : Int64) ((v_writtenMany - (1 : Int32)).toInt64) r_5 hc_) gX11_writtenByte_X11_isIn rfl ⟨rfl, rfl⟩ hy_X11_isIn rfl ⟨Nat.le_of_ble_eq_true rfl, Nat.le_of_ble_eq_true rfl⟩ rfl rfl rfl (Nat.le_of_ble_eq_true rfl) rfl dX11_writtenByte_11 rfl rfl ?_
  refine gq_if_eq hC 21 dX11_writtenByte_14 (by decide) (fun hc_6 => ?_) (fun hc_6 => ?_)
  · have hF := (if_pos hc_6).symm.trans hF
    refine gq_iconst hC (1 : Int32) dX11_writtenByte_21 (by decide) ?_
    exact jb22 (1 : Int32) v_thrown hF
  · have hF := (if_neg hc_6).symm.trans hF
    refine gq_iconst hC (0 : Int32) dX11_writtenByte_17 (by decide) ?_
    refine gq_goto hC 22 dX11_writtenByte_18 (by decide) ?_
    exact jb22 (0 : Int32) v_thrown hF
