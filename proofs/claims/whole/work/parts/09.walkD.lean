def S_J7_fill_53178_5 (n0 : Nat) (x1 : Int32) (l3_2 : Int32) (k : Int32 × (Nat → Int32) → Option (((Nat → Int32)))) (l2_1 : Int32) (v_p0_3 : Nat → Int32) : Option (((Nat → Int32))) := if l3_2 ≤ l2_1 then (some (v_p0_3)) else (gi l2_1 n0 (k ((l2_1 + (1 : Int32)), (upd v_p0_3 l2_1.toNatClampNeg x1))))
def F_J7_fill_53178 (n0 : Nat) (x1 : Int32) (v_p0 : Nat → Int32) : Option ((Nat → Int32)) := ob1 (wh (fun k q => S_J7_fill_53178_5 n0 x1 (Int32.ofNat n0) k q.1 q.2) wF ((0 : Int32), v_p0)) (fun e_7 => some e_7)
def S_X10_percentAlike_9 (n0 : Nat) (n2 : Nat) (x1 : Int32) (x3 : Int32) (v_p0 : Nat → Int32) (v_p2 : Nat → Int32) (k : Int32 × Int32 × Int32 → Option ((Int32 × Int32))) (l4_1 : Int32) (l5_2 : Int32) (l6_3 : Int32) : Option ((Int32 × Int32)) := if (24 : Int32) ≤ l6_3 then (some (l4_1, l5_2)) else (gi (x1 + l6_3) n0 (gi (x3 + l6_3) n2 (k ((l4_1 + (if (v_p2 (x3 + l6_3).toNatClampNeg) < (v_p0 (x1 + l6_3).toNatClampNeg) then (v_p2 (x3 + l6_3).toNatClampNeg) else (v_p0 (x1 + l6_3).toNatClampNeg))), (l5_2 + (if (v_p0 (x1 + l6_3).toNatClampNeg) < (v_p2 (x3 + l6_3).toNatClampNeg) then (v_p2 (x3 + l6_3).toNatClampNeg) else (v_p0 (x1 + l6_3).toNatClampNeg))), (l6_3 + (1 : Int32))))))
def F_X10_percentAlike (n0 : Nat) (n2 : Nat) (x1 : Int32) (x3 : Int32) (v_p0 : Nat → Int32) (v_p2 : Nat → Int32) : Option (Int32) := ob2 (wh (fun k q => S_X10_percentAlike_9 n0 n2 x1 x3 v_p0 v_p2 k q.1 q.2.1 q.2.2) wF ((0 : Int32), (0 : Int32), (0 : Int32))) (fun e_9 e_10 => if e_10 = 0 then (some (0 : Int32)) else (gzi e_10 (some (((100 : Int32) * e_9) / e_10))))
def F_X0_windowLikeness (x2 : Int32) (x3 : Int32) (v_segmentCount : Int32) (v_left : Nat → Int32) (v_right : Nat → Int32) (v_p1_order : Nat → Int32) (v_p1_sizes : Nat → Int32) (v_p1_words : Nat → Int32) : Option (Int32 × (Nat → Int32) × (Nat → Int32)) := ob1 (F_J7_fill_53178 24 (0 : Int32) v_left) (fun v_left_1 => ob1 (F_J7_fill_53178 24 (0 : Int32) v_right) (fun v_right_2 => ob1 (F_X9_tally 24 (if (0 : Int32) < ((x2 - x3) + (1 : Int32)) then ((x2 - x3) + (1 : Int32)) else (0 : Int32)) x2 (0 : Int32) v_p1_order v_p1_sizes v_p1_words v_left_1) (fun v_left_3 => ob1 (F_X9_tally 24 (x2 + (1 : Int32)) (if (x2 + x3) < (v_segmentCount - (1 : Int32)) then (x2 + x3) else (v_segmentCount - (1 : Int32))) (0 : Int32) v_p1_order v_p1_sizes v_p1_words v_right_2) (fun v_right_4 => ob1 (F_X10_percentAlike 24 24 (0 : Int32) (0 : Int32) v_left_3 v_right_4) (fun r_5 => some (r_5, v_left_3, v_right_4))))))
def F_X0_durationFrom (x1 : Int32) (x2 : Int32) (v_starts : Nat → Int32) : Option (Int32) := gi (x2 + (1 : Int32)) 33 (gi x1 33 (some ((v_starts (x2 + (1 : Int32)).toNatClampNeg) - (v_starts x1.toNatClampNeg))))
def F_X0_isLongEnough (x1 : Int32) (x2 : Int32) (v_least : Int32) (v_most : Int32) (v_starts : Nat → Int32) : Option (Int32) := ob1 (F_X0_durationFrom x1 x2 v_starts) (fun r_1 => if r_1 < v_least then (some (0 : Int32)) else (if v_most < r_1 then (some (0 : Int32)) else (some (1 : Int32))))
def F_X0_consider_b108 (x1 : Int32) (x2 : Int32) (l4_1 : Int32) (l5_2 : Int32) (st_3 : Int32) (v_worths_4 : Nat → Int32) (v_cutCounts_5 : Nat → Int32) (v_lasts_6 : Nat → Int32) : Option ((Nat → Int32) × (Nat → Int32) × (Nat → Int32)) := if st_3 = 0 then (some (v_worths_4, v_cutCounts_5, v_lasts_6)) else (gi x1 32 (gi x1 32 (gi x1 32 (some ((upd v_worths_4 x1.toNatClampNeg l4_1), (upd v_cutCounts_5 x1.toNatClampNeg l5_2), (upd v_lasts_6 x1.toNatClampNeg x2))))))
def F_X0_consider_b107 (x1 : Int32) (x2 : Int32) (l4_11 : Int32) (l5_12 : Int32) (v_worths_13 : Nat → Int32) (v_cutCounts_14 : Nat → Int32) (v_lasts_15 : Nat → Int32) : Option ((Nat → Int32) × (Nat → Int32) × (Nat → Int32)) := F_X0_consider_b108 x1 x2 l4_11 l5_12 (0 : Int32) v_worths_13 v_cutCounts_14 v_lasts_15
def F_X0_consider_b103 (x1 : Int32) (x2 : Int32) (l4_16 : Int32) (l5_17 : Int32) (v_worths_18 : Nat → Int32) (v_cutCounts_19 : Nat → Int32) (v_lasts_20 : Nat → Int32) : Option ((Nat → Int32) × (Nat → Int32) × (Nat → Int32)) := F_X0_consider_b108 x1 x2 l4_16 l5_17 (1 : Int32) v_worths_18 v_cutCounts_19 v_lasts_20
def F_X0_consider_b60 (x1 : Int32) (x2 : Int32) (l4_21 : Int32) (l5_22 : Int32) (v_worths_23 : Nat → Int32) (v_cutCounts_24 : Nat → Int32) (v_lasts_25 : Nat → Int32) : Option ((Nat → Int32) × (Nat → Int32) × (Nat → Int32)) := gi x1 32 (if (v_lasts_25 x1.toNatClampNeg) = (-1 : Int32) then (F_X0_consider_b103 x1 x2 l4_21 l5_22 v_worths_23 v_cutCounts_24 v_lasts_25) else (gi x1 32 (if (v_worths_23 x1.toNatClampNeg) < l4_21 then (F_X0_consider_b103 x1 x2 l4_21 l5_22 v_worths_23 v_cutCounts_24 v_lasts_25) else (gi x1 32 (if l4_21 = (v_worths_23 x1.toNatClampNeg) then (gi x1 32 (if (v_cutCounts_24 x1.toNatClampNeg) ≤ l5_22 then (F_X0_consider_b107 x1 x2 l4_21 l5_22 v_worths_23 v_cutCounts_24 v_lasts_25) else (F_X0_consider_b103 x1 x2 l4_21 l5_22 v_worths_23 v_cutCounts_24 v_lasts_25))) else (F_X0_consider_b107 x1 x2 l4_21 l5_22 v_worths_23 v_cutCounts_24 v_lasts_25))))))
def F_X0_consider (x1 : Int32) (x2 : Int32) (x3 : Int32) (v_segmentCount : Int32) (v_changes : Nat → Int32) (v_worths : Nat → Int32) (v_cutCounts : Nat → Int32) (v_lasts : Nat → Int32) : Option ((Nat → Int32) × (Nat → Int32) × (Nat → Int32)) := if v_segmentCount ≤ (x2 + (1 : Int32)) then (F_X0_consider_b60 x1 x2 (0 : Int32) (0 : Int32) v_worths v_cutCounts v_lasts) else (gi (x2 + (1 : Int32)) 32 (if (v_lasts (x2 + (1 : Int32)).toNatClampNeg) = (-1 : Int32) then (some (v_worths, v_cutCounts, v_lasts)) else (gi x2 31 (gi (x2 + (1 : Int32)) 32 (gi (x2 + (1 : Int32)) 32 (F_X0_consider_b60 x1 x2 (((v_changes x2.toNatClampNeg) - x3) + (v_worths (x2 + (1 : Int32)).toNatClampNeg)) ((v_cutCounts (x2 + (1 : Int32)).toNatClampNeg) + (1 : Int32)) v_worths v_cutCounts v_lasts))))))
def F_X0_solve_b51 (k : Int32 × (Nat → Int32) × (Nat → Int32) × (Nat → Int32) → Option (((Nat → Int32) × (Nat → Int32) × (Nat → Int32)))) (x1 : Int32) (x2 : Int32) (x3 : Int32) (l4_6 : Int32) (l5_11 : Int32) (st_12 : Int32) (v_segmentCount : Int32) (v_least : Int32) (v_most : Int32) (v_changes : Nat → Int32) (v_worths_13 : Nat → Int32) (v_cutCounts_14 : Nat → Int32) (v_lasts_15 : Nat → Int32) (v_starts : Nat → Int32) : Option (((Nat → Int32) × (Nat → Int32) × (Nat → Int32))) := ob1 (F_X0_isLongEnough l4_6 l5_11 v_least v_most v_starts) (fun r_16 => if r_16 = 0 then (k ((l5_11 + (1 : Int32)), v_worths_13, v_cutCounts_14, v_lasts_15)) else (if st_12 = 0 then (if l5_11 = x3 then (k ((l5_11 + (1 : Int32)), v_worths_13, v_cutCounts_14, v_lasts_15)) else (ob3 (F_X0_consider l4_6 l5_11 x1 v_segmentCount v_changes v_worths_13 v_cutCounts_14 v_lasts_15) (fun v_worths_17 v_cutCounts_18 v_lasts_19 => k ((l5_11 + (1 : Int32)), v_worths_17, v_cutCounts_18, v_lasts_19)))) else (k ((l5_11 + (1 : Int32)), v_worths_13, v_cutCounts_14, v_lasts_15))))
def F_X0_solve_b50 (k : Int32 × (Nat → Int32) × (Nat → Int32) × (Nat → Int32) → Option (((Nat → Int32) × (Nat → Int32) × (Nat → Int32)))) (x1 : Int32) (x2 : Int32) (x3 : Int32) (l4_6 : Int32) (l5_23 : Int32) (v_segmentCount : Int32) (v_least : Int32) (v_most : Int32) (v_changes : Nat → Int32) (v_worths_24 : Nat → Int32) (v_cutCounts_25 : Nat → Int32) (v_lasts_26 : Nat → Int32) (v_starts : Nat → Int32) : Option (((Nat → Int32) × (Nat → Int32) × (Nat → Int32))) := F_X0_solve_b51 k x1 x2 x3 l4_6 l5_23 (0 : Int32) v_segmentCount v_least v_most v_changes v_worths_24 v_cutCounts_25 v_lasts_26 v_starts
def S_X0_solve_25 (x1 : Int32) (x2 : Int32) (x3 : Int32) (l4_6 : Int32) (v_segmentCount : Int32) (v_least : Int32) (v_most : Int32) (v_changes : Nat → Int32) (v_starts : Nat → Int32) (k : Int32 × (Nat → Int32) × (Nat → Int32) × (Nat → Int32) → Option (((Nat → Int32) × (Nat → Int32) × (Nat → Int32)))) (l5_7 : Int32) (v_worths_8 : Nat → Int32) (v_cutCounts_9 : Nat → Int32) (v_lasts_10 : Nat → Int32) : Option (((Nat → Int32) × (Nat → Int32) × (Nat → Int32))) := if v_segmentCount ≤ l5_7 then (some (v_worths_8, v_cutCounts_9, v_lasts_10)) else (if x2 < l4_6 then (F_X0_solve_b50 k x1 x2 x3 l4_6 l5_7 v_segmentCount v_least v_most v_changes v_worths_8 v_cutCounts_9 v_lasts_10 v_starts) else (if l5_7 ≤ x2 then (F_X0_solve_b50 k x1 x2 x3 l4_6 l5_7 v_segmentCount v_least v_most v_changes v_worths_8 v_cutCounts_9 v_lasts_10 v_starts) else (F_X0_solve_b51 k x1 x2 x3 l4_6 l5_7 (1 : Int32) v_segmentCount v_least v_most v_changes v_worths_8 v_cutCounts_9 v_lasts_10 v_starts)))
def S_X0_solve_8 (x1 : Int32) (x2 : Int32) (x3 : Int32) (v_segmentCount : Int32) (v_least : Int32) (v_most : Int32) (v_changes : Nat → Int32) (v_starts : Nat → Int32) (k : Int32 × (Nat → Int32) × (Nat → Int32) × (Nat → Int32) → Option (((Nat → Int32) × (Nat → Int32) × (Nat → Int32)))) (l4_1 : Int32) (v_worths_2 : Nat → Int32) (v_cutCounts_3 : Nat → Int32) (v_lasts_4 : Nat → Int32) : Option (((Nat → Int32) × (Nat → Int32) × (Nat → Int32))) := if l4_1 < 0 then (some (v_worths_2, v_cutCounts_3, v_lasts_4)) else (gi l4_1 32 (ob3 (wh (fun k q => S_X0_solve_25 x1 x2 x3 l4_1 v_segmentCount v_least v_most v_changes v_starts k q.1 q.2.1 q.2.2.1 q.2.2.2) wF (l4_1, v_worths_2, v_cutCounts_3, (upd v_lasts_4 l4_1.toNatClampNeg (-1 : Int32)))) (fun e_33 e_34 e_35 => k ((l4_1 + (-1 : Int32)), e_33, e_34, e_35))))
def F_X0_solve (x1 : Int32) (x2 : Int32) (x3 : Int32) (v_segmentCount : Int32) (v_least : Int32) (v_most : Int32) (v_changes : Nat → Int32) (v_worths : Nat → Int32) (v_cutCounts : Nat → Int32) (v_lasts : Nat → Int32) (v_starts : Nat → Int32) : Option (Int32 × (Nat → Int32) × (Nat → Int32) × (Nat → Int32)) := ob3 (wh (fun k q => S_X0_solve_8 x1 x2 x3 v_segmentCount v_least v_most v_changes v_starts k q.1 q.2.1 q.2.2.1 q.2.2.2) wF ((v_segmentCount - (1 : Int32)), v_worths, v_cutCounts, v_lasts)) (fun e_40 e_41 e_42 => if v_segmentCount ≤ 0 then (some ((0 : Int32), e_40, e_41, e_42)) else (gi (0 : Int32) 32 (if (e_42 (0 : Int32).toNatClampNeg) = (-1 : Int32) then (some ((0 : Int32), e_40, e_41, e_42)) else (some ((1 : Int32), e_40, e_41, e_42)))))
def F_X0_takeBest_b56 (k : Int32 × Int32 × (Int32) × (Nat → Int32) × (Nat → Int32) → Option (((Int32) × (Nat → Int32) × (Nat → Int32)))) (l1_8 : Int32) (l2_9 : Int32) (v_chapterCount_10 : Int32) (v_bestWorth_5 : Int32) (v_segmentCount : Int32) (v_firsts_11 : Nat → Int32) (v_chapterAt_12 : Nat → Int32) (v_lasts : Nat → Int32) : Option (((Int32) × (Nat → Int32) × (Nat → Int32))) := gi l2_9 32 (k (l1_8, (l2_9 + (1 : Int32)), v_chapterCount_10, v_firsts_11, (upd v_chapterAt_12 l2_9.toNatClampNeg (v_chapterCount_10 - (1 : Int32)))))
def S_X0_takeBest_14 (v_bestWorth_5 : Int32) (v_segmentCount : Int32) (v_lasts : Nat → Int32) (k : Int32 × Int32 × (Int32) × (Nat → Int32) × (Nat → Int32) → Option (((Int32) × (Nat → Int32) × (Nat → Int32)))) (l1_2 : Int32) (l2_3 : Int32) (v_chapterCount_4 : Int32) (v_firsts_6 : Nat → Int32) (v_chapterAt_7 : Nat → Int32) : Option (((Int32) × (Nat → Int32) × (Nat → Int32))) := if v_segmentCount ≤ l2_3 then (some (v_chapterCount_4, v_firsts_6, v_chapterAt_7)) else (if l2_3 = l1_2 then (gi v_chapterCount_4 32 (gi l2_3 32 (F_X0_takeBest_b56 k ((v_lasts l2_3.toNatClampNeg) + (1 : Int32)) l2_3 (v_chapterCount_4 + (1 : Int32)) v_bestWorth_5 v_segmentCount (upd v_firsts_6 v_chapterCount_4.toNatClampNeg l2_3) v_chapterAt_7 v_lasts))) else (F_X0_takeBest_b56 k l1_2 l2_3 v_chapterCount_4 v_bestWorth_5 v_segmentCount v_firsts_6 v_chapterAt_7 v_lasts))
def F_X0_takeBest (v_chapterCount : Int32) (v_bestWorth : Int32) (v_segmentCount : Int32) (v_firsts : Nat → Int32) (v_chapterAt : Nat → Int32) (v_worths : Nat → Int32) (v_lasts : Nat → Int32) : Option ((Int32) × (Int32) × (Nat → Int32) × (Nat → Int32)) := gi (0 : Int32) 32 (ob3 (wh (fun k q => S_X0_takeBest_14 (v_worths (0 : Int32).toNatClampNeg) v_segmentCount v_lasts k q.1 q.2.1 q.2.2.1 q.2.2.2.1 q.2.2.2.2) wF ((0 : Int32), (0 : Int32), v_chapterCount, v_firsts, v_chapterAt)) (fun e_21 e_22 e_23 => some (e_21, (v_worths (0 : Int32).toNatClampNeg), e_22, e_23)))
def S_X0_update_40 (v_chapterCount_5 : Int32) (v_bestWorth_6 : Int32) (v_segmentCount_7 : Int32) (v_least_8 : Int32) (v_most_9 : Int32) (v_changes_10 : Nat → Int32) (v_firsts_11 : Nat → Int32) (v_chapterAt_12 : Nat → Int32) (v_worths_13 : Nat → Int32) (v_cutCounts_14 : Nat → Int32) (v_lasts_15 : Nat → Int32) (v_left_17 : Nat → Int32) (v_right_18 : Nat → Int32) (v_p1_transcript_order : Nat → Int32) (v_p1_transcript_durations : Nat → Int32) (v_p1_transcript_sizes : Nat → Int32) (v_p1_transcript_words : Nat → Int32) (v_p1_settings : Nat → Int32) (k : Int32 × (Nat → Int32) → Option (((Nat → Int32)))) (l2_4 : Int32) (v_starts_16 : Nat → Int32) : Option (((Nat → Int32))) := if v_segmentCount_7 ≤ l2_4 then (some (v_starts_16)) else (gi l2_4 33 (ob1 (F_X9_durationOf l2_4 v_p1_transcript_order v_p1_transcript_durations) (fun r_20 => gi (l2_4 + (1 : Int32)) 33 (k ((l2_4 + (1 : Int32)), (upd v_starts_16 (l2_4 + (1 : Int32)).toNatClampNeg ((v_starts_16 l2_4.toNatClampNeg) + r_20)))))))
def S_X0_update_79 (v_chapterCount_26 : Int32) (v_bestWorth_27 : Int32) (v_segmentCount_28 : Int32) (v_least_29 : Int32) (v_most_30 : Int32) (v_firsts_32 : Nat → Int32) (v_chapterAt_33 : Nat → Int32) (v_worths_34 : Nat → Int32) (v_cutCounts_35 : Nat → Int32) (v_lasts_36 : Nat → Int32) (v_starts_37 : Nat → Int32) (v_p1_transcript_order : Nat → Int32) (v_p1_transcript_sizes : Nat → Int32) (v_p1_transcript_words : Nat → Int32) (v_p1_settings : Nat → Int32) (k : Int32 × (Nat → Int32) × (Nat → Int32) × (Nat → Int32) → Option (((Nat → Int32) × (Nat → Int32) × (Nat → Int32)))) (l2_25 : Int32) (v_changes_31 : Nat → Int32) (v_left_38 : Nat → Int32) (v_right_39 : Nat → Int32) : Option (((Nat → Int32) × (Nat → Int32) × (Nat → Int32))) := if (v_segmentCount_28 - (1 : Int32)) ≤ l2_25 then (some (v_changes_31, v_left_38, v_right_39)) else (gi (2 : Int32) 6 (ob3 (F_X0_windowLikeness l2_25 (v_p1_settings (2 : Int32).toNatClampNeg) v_segmentCount_28 v_left_38 v_right_39 v_p1_transcript_order v_p1_transcript_sizes v_p1_transcript_words) (fun r_41 v_left_42 v_right_43 => gi l2_25 31 (k ((l2_25 + (1 : Int32)), (upd v_changes_31 l2_25.toNatClampNeg ((100 : Int32) - r_41)), v_left_42, v_right_43)))))
def F_X0_update (v_chapterCount : Int32) (v_bestWorth : Int32) (v_segmentCount : Int32) (v_least : Int32) (v_most : Int32) (v_changes : Nat → Int32) (v_firsts : Nat → Int32) (v_chapterAt : Nat → Int32) (v_worths : Nat → Int32) (v_cutCounts : Nat → Int32) (v_lasts : Nat → Int32) (v_starts : Nat → Int32) (v_left : Nat → Int32) (v_right : Nat → Int32) (v_p1_transcript_segmentCount : Int32) (v_p1_transcript_order : Nat → Int32) (v_p1_transcript_durations : Nat → Int32) (v_p1_transcript_sizes : Nat → Int32) (v_p1_transcript_words : Nat → Int32) (v_p1_settings : Nat → Int32) : Option ((Int32) × (Int32) × (Int32) × (Int32) × (Int32) × (Nat → Int32) × (Nat → Int32) × (Nat → Int32) × (Nat → Int32) × (Nat → Int32) × (Nat → Int32) × (Nat → Int32) × (Nat → Int32) × (Nat → Int32)) := gi (0 : Int32) 6 (gi (1 : Int32) 6 (gi (0 : Int32) 33 (ob1 (wh (fun k q => S_X0_update_40 v_chapterCount v_bestWorth v_p1_transcript_segmentCount (v_p1_settings (0 : Int32).toNatClampNeg) (v_p1_settings (1 : Int32).toNatClampNeg) v_changes v_firsts v_chapterAt v_worths v_cutCounts v_lasts v_left v_right v_p1_transcript_order v_p1_transcript_durations v_p1_transcript_sizes v_p1_transcript_words v_p1_settings k q.1 q.2) wF ((0 : Int32), (upd v_starts (0 : Int32).toNatClampNeg (0 : Int32)))) (fun e_24 => ob3 (wh (fun k q => S_X0_update_79 v_chapterCount v_bestWorth v_p1_transcript_segmentCount (v_p1_settings (0 : Int32).toNatClampNeg) (v_p1_settings (1 : Int32).toNatClampNeg) v_firsts v_chapterAt v_worths v_cutCounts v_lasts e_24 v_p1_transcript_order v_p1_transcript_sizes v_p1_transcript_words v_p1_settings k q.1 q.2.1 q.2.2.1 q.2.2.2) wF ((0 : Int32), v_changes, v_left, v_right)) (fun e_49 e_50 e_51 => gi (3 : Int32) 6 (ob4 (F_X0_solve (v_p1_settings (3 : Int32).toNatClampNeg) (-1 : Int32) (-1 : Int32) v_p1_transcript_segmentCount (v_p1_settings (0 : Int32).toNatClampNeg) (v_p1_settings (1 : Int32).toNatClampNeg) e_49 v_worths v_cutCounts v_lasts e_24) (fun r_53 v_worths_54 v_cutCounts_55 v_lasts_56 => if r_53 = 0 then (some ((0 : Int32), v_bestWorth, v_p1_transcript_segmentCount, (v_p1_settings (0 : Int32).toNatClampNeg), (v_p1_settings (1 : Int32).toNatClampNeg), e_49, v_firsts, v_chapterAt, v_worths_54, v_cutCounts_55, v_lasts_56, e_24, e_50, e_51)) else (ob4 (F_X0_takeBest (0 : Int32) v_bestWorth v_p1_transcript_segmentCount v_firsts v_chapterAt v_worths_54 v_lasts_56) (fun v_chapterCount_57 v_bestWorth_58 v_firsts_59 v_chapterAt_60 => some (v_chapterCount_57, v_bestWorth_58, v_p1_transcript_segmentCount, (v_p1_settings (0 : Int32).toNatClampNeg), (v_p1_settings (1 : Int32).toNatClampNeg), e_49, v_firsts_59, v_chapterAt_60, v_worths_54, v_cutCounts_55, v_lasts_56, e_24, e_50, e_51))))))))))
def F_X0_lastOf (x1 : Int32) (v_chapterCount : Int32) (v_segmentCount : Int32) (v_firsts : Nat → Int32) : Option (Int32) := if v_chapterCount ≤ (x1 + (1 : Int32)) then (some (v_segmentCount - (1 : Int32))) else (gi (x1 + (1 : Int32)) 32 (some ((v_firsts (x1 + (1 : Int32)).toNatClampNeg) - (1 : Int32))))
def F_X0_isCut (x1 : Int32) (v_chapterCount : Int32) (v_chapterAt : Nat → Int32) : Option (Int32) := if v_chapterCount ≤ 0 then (some (0 : Int32)) else (gi x1 32 (gi (x1 + (1 : Int32)) 32 (if (v_chapterAt x1.toNatClampNeg) = (v_chapterAt (x1 + (1 : Int32)).toNatClampNeg) then (some (0 : Int32)) else (some (1 : Int32)))))
def F_X0_timeOf (x1 : Int32) (v_starts : Nat → Int32) : Option (Int32) := gi (x1 + (1 : Int32)) 33 (some (v_starts (x1 + (1 : Int32)).toNatClampNeg))
def S_X0_worthOfCuts_5 (x1 : Int32) (x2 : Int32) (v_segmentCount : Int32) (v_changes : Nat → Int32) (k : Int32 × Int32 → Option ((Int32))) (l3_1 : Int32) (l4_2 : Int32) : Option ((Int32)) := if (v_segmentCount - (1 : Int32)) ≤ l4_2 then (some (l3_1)) else (if (((x1.toUInt32 >>> (l4_2.toUInt32 &&& Int32.toUInt32 31)).toInt32) &&& (1 : Int32)) = (1 : Int32) then (gi l4_2 31 (k ((l3_1 + ((v_changes l4_2.toNatClampNeg) - x2)), (l4_2 + (1 : Int32))))) else (k (l3_1, (l4_2 + (1 : Int32)))))
def F_X0_worthOfCuts (x1 : Int32) (x2 : Int32) (v_segmentCount : Int32) (v_changes : Nat → Int32) : Option (Int32) := ob1 (wh (fun k q => S_X0_worthOfCuts_5 x1 x2 v_segmentCount v_changes k q.1 q.2) wF ((0 : Int32), (0 : Int32))) (fun e_7 => some e_7)
def F_X0_allows_b31 (k : Int32 × Int32 → Option ((Unit) ⊕ (Unit))) (x1 : Int32) (l2_3 : Int32) (l3_4 : Int32) (v_segmentCount : Int32) (v_least : Int32) (v_most : Int32) (v_starts : Nat → Int32) : Option ((Unit) ⊕ (Unit)) := ob1 (F_X0_isLongEnough l2_3 l3_4 v_least v_most v_starts) (fun r_5 => if r_5 = 0 then (some (.inl ())) else (k ((l3_4 + (1 : Int32)), (l3_4 + (1 : Int32)))))
def S_X0_allows_4 (x1 : Int32) (v_segmentCount : Int32) (v_least : Int32) (v_most : Int32) (v_starts : Nat → Int32) (k : Int32 × Int32 → Option ((Unit) ⊕ (Unit))) (l2_1 : Int32) (l3_2 : Int32) : Option ((Unit) ⊕ (Unit)) := if v_segmentCount ≤ l3_2 then (some (.inr ())) else (if l3_2 = (v_segmentCount - (1 : Int32)) then (F_X0_allows_b31 k x1 l2_1 l3_2 v_segmentCount v_least v_most v_starts) else (if (((x1.toUInt32 >>> (l3_2.toUInt32 &&& Int32.toUInt32 31)).toInt32) &&& (1 : Int32)) = (1 : Int32) then (F_X0_allows_b31 k x1 l2_1 l3_2 v_segmentCount v_least v_most v_starts) else (k (l2_1, (l3_2 + (1 : Int32))))))
def F_X0_allows (x1 : Int32) (v_segmentCount : Int32) (v_least : Int32) (v_most : Int32) (v_starts : Nat → Int32) : Option (Int32) := ob1 (wh (fun k q => S_X0_allows_4 x1 v_segmentCount v_least v_most v_starts k q.1 q.2) wF ((0 : Int32), (0 : Int32))) (Sum.elim (un1 (fun _u => some (0 : Int32))) (un1 (fun _u => if v_segmentCount ≤ 0 then (some (0 : Int32)) else (some (1 : Int32)))))
def S_X0_countAllowed_30 (l1_5 : Int32) (v_segmentCount : Int32) (v_least : Int32) (v_most : Int32) (v_starts : Nat → Int32) (k : Int32 × (Nat → Int64) → Option (((Nat → Int64)))) (l2_6 : Int32) (v_ways_7 : Nat → Int64) : Option (((Nat → Int64))) := if v_segmentCount ≤ l2_6 then (some (v_ways_7)) else (ob1 (F_X0_isLongEnough l1_5 l2_6 v_least v_most v_starts) (fun r_8 => if r_8 = 0 then (k ((l2_6 + (1 : Int32)), v_ways_7)) else (gi l1_5 33 (gi (l2_6 + (1 : Int32)) 33 (gi l1_5 33 (k ((l2_6 + (1 : Int32)), (vp_updL v_ways_7 l1_5.toNatClampNeg ((v_ways_7 l1_5.toNatClampNeg) + (v_ways_7 (l2_6 + (1 : Int32)).toNatClampNeg))))))))))
def S_X0_countAllowed_17 (v_segmentCount : Int32) (v_least : Int32) (v_most : Int32) (v_starts : Nat → Int32) (k : Int32 × (Nat → Int64) → Option (((Nat → Int64)))) (l1_2 : Int32) (v_ways_3 : Nat → Int64) : Option (((Nat → Int64))) := if l1_2 < 0 then (some (v_ways_3)) else (gi l1_2 33 (ob1 (wh (fun k q => S_X0_countAllowed_30 l1_2 v_segmentCount v_least v_most v_starts k q.1 q.2) wF (l1_2, (vp_updL v_ways_3 l1_2.toNatClampNeg (0 : Int64)))) (fun e_15 => k ((l1_2 + (-1 : Int32)), e_15))))
def F_X0_countAllowed (v_segmentCount : Int32) (v_least : Int32) (v_most : Int32) (v_starts : Nat → Int32) (v_ways : Nat → Int64) : Option (Int64 × (Nat → Int64)) := gi v_segmentCount 33 (ob1 (wh (fun k q => S_X0_countAllowed_17 v_segmentCount v_least v_most v_starts k q.1 q.2) wF ((v_segmentCount - (1 : Int32)), (vp_updL v_ways v_segmentCount.toNatClampNeg (1 : Int64)))) (fun e_18 => if v_segmentCount ≤ 0 then (some ((0 : Int64), e_18)) else (gi (0 : Int32) 33 (some ((e_18 (0 : Int32).toNatClampNeg), e_18)))))
def F_X0_chaptersAtPrice (x1 : Int32) (v_segmentCount : Int32) (v_least : Int32) (v_most : Int32) (v_changes : Nat → Int32) (v_worths : Nat → Int32) (v_cutCounts : Nat → Int32) (v_lasts : Nat → Int32) (v_starts : Nat → Int32) : Option (Int32 × (Nat → Int32) × (Nat → Int32) × (Nat → Int32)) := ob4 (F_X0_solve x1 (-1 : Int32) (-1 : Int32) v_segmentCount v_least v_most v_changes v_worths v_cutCounts v_lasts v_starts) (fun r_1 v_worths_2 v_cutCounts_3 v_lasts_4 => if r_1 = 0 then (some ((0 : Int32), v_worths_2, v_cutCounts_3, v_lasts_4)) else (gi (0 : Int32) 32 (some (((v_cutCounts_3 (0 : Int32).toNatClampNeg) + (1 : Int32)), v_worths_2, v_cutCounts_3, v_lasts_4))))
def F_X0_greatestPrice_b43 (k : Int32 × Int32 × (Nat → Int32) × (Nat → Int32) × (Nat → Int32) → Option ((Int32 × (Nat → Int32) × (Nat → Int32) × (Nat → Int32)))) (x1 : Int32) (l2_10 : Int32) (l3_11 : Int32) (v_segmentCount : Int32) (v_least : Int32) (v_most : Int32) (v_changes : Nat → Int32) (v_worths_12 : Nat → Int32) (v_cutCounts_13 : Nat → Int32) (v_lasts_14 : Nat → Int32) (v_starts : Nat → Int32) : Option ((Int32 × (Nat → Int32) × (Nat → Int32) × (Nat → Int32))) := gzi (2 : Int32) (k (l2_10, (l3_11 / (2 : Int32)), v_worths_12, v_cutCounts_13, v_lasts_14))
def S_X0_greatestPrice_16 (x1 : Int32) (v_segmentCount : Int32) (v_least : Int32) (v_most : Int32) (v_changes : Nat → Int32) (v_starts : Nat → Int32) (k : Int32 × Int32 × (Nat → Int32) × (Nat → Int32) × (Nat → Int32) → Option ((Int32 × (Nat → Int32) × (Nat → Int32) × (Nat → Int32)))) (l2_5 : Int32) (l3_6 : Int32) (v_worths_7 : Nat → Int32) (v_cutCounts_8 : Nat → Int32) (v_lasts_9 : Nat → Int32) : Option ((Int32 × (Nat → Int32) × (Nat → Int32) × (Nat → Int32))) := if l3_6 ≤ 0 then (some (l2_5, v_worths_7, v_cutCounts_8, v_lasts_9)) else (if (100 : Int32) < (l2_5 + l3_6) then (F_X0_greatestPrice_b43 k x1 l2_5 l3_6 v_segmentCount v_least v_most v_changes v_worths_7 v_cutCounts_8 v_lasts_9 v_starts) else (ob4 (F_X0_chaptersAtPrice (l2_5 + l3_6) v_segmentCount v_least v_most v_changes v_worths_7 v_cutCounts_8 v_lasts_9 v_starts) (fun r_16 v_worths_17 v_cutCounts_18 v_lasts_19 => if r_16 < x1 then (F_X0_greatestPrice_b43 k x1 l2_5 l3_6 v_segmentCount v_least v_most v_changes v_worths_17 v_cutCounts_18 v_lasts_19 v_starts) else (F_X0_greatestPrice_b43 k x1 (l2_5 + l3_6) l3_6 v_segmentCount v_least v_most v_changes v_worths_17 v_cutCounts_18 v_lasts_19 v_starts))))
def F_X0_greatestPrice (x1 : Int32) (v_segmentCount : Int32) (v_least : Int32) (v_most : Int32) (v_changes : Nat → Int32) (v_worths : Nat → Int32) (v_cutCounts : Nat → Int32) (v_lasts : Nat → Int32) (v_starts : Nat → Int32) : Option (Int32 × (Nat → Int32) × (Nat → Int32) × (Nat → Int32)) := ob4 (F_X0_chaptersAtPrice (0 : Int32) v_segmentCount v_least v_most v_changes v_worths v_cutCounts v_lasts v_starts) (fun r_1 v_worths_2 v_cutCounts_3 v_lasts_4 => if x1 ≤ r_1 then (ob4 (wh (fun k q => S_X0_greatestPrice_16 x1 v_segmentCount v_least v_most v_changes v_starts k q.1 q.2.1 q.2.2.1 q.2.2.2.1 q.2.2.2.2) wF ((0 : Int32), (64 : Int32), v_worths_2, v_cutCounts_3, v_lasts_4)) (fun e_27 e_28 e_29 e_30 => some (e_27, e_28, e_29, e_30))) else (some ((-1 : Int32), v_worths_2, v_cutCounts_3, v_lasts_4)))
def F_X4_distance (x2 : Int32) (x3 : Int32) (v_times : Nat → Int32) (v_p1_wishes : Nat → Int32) : Option (Int32) := gi x3 31 (gi x2 5 (some (if 0 ≤ ((v_times x3.toNatClampNeg) - (v_p1_wishes x2.toNatClampNeg)) then ((v_times x3.toNatClampNeg) - (v_p1_wishes x2.toNatClampNeg)) else 0 - ((v_times x3.toNatClampNeg) - (v_p1_wishes x2.toNatClampNeg)))))
def F_X4_isChoice (x2 : Int32) (x3 : Int32) (v_times : Nat → Int32) (v_p1_transcript_order : Nat → Int32) (v_p1_transcript_pauses : Nat → Int32) (v_p1_slots_wishes : Nat → Int32) (v_p1_slots_reaches : Nat → Int32) (v_p1_settings : Nat → Int32) : Option (Int32) := ob1 (F_X9_pauseOf x3 v_p1_transcript_order v_p1_transcript_pauses) (fun r_1 => gi (4 : Int32) 6 (if r_1 < (v_p1_settings (4 : Int32).toNatClampNeg) then (some (0 : Int32)) else (ob1 (F_X4_distance x2 x3 v_times v_p1_slots_wishes) (fun r_3 => gi x2 5 (if (v_p1_slots_reaches x2.toNatClampNeg) < r_3 then (some (0 : Int32)) else (some (1 : Int32)))))))
def S_X4_cheapest_9 (x1 : Int32) (x3 : Int32) (v_boundaryCount : Int32) (v_costs : Nat → Int32) (v_times : Nat → Int32) (k : Int32 × Int32 × Int32 → Option ((Int32))) (l4_1 : Int32) (l5_2 : Int32) (l6_3 : Int32) : Option ((Int32)) := if v_boundaryCount ≤ l6_3 then (some (l4_1)) else (gi ((x1 * (31 : Int32)) + l6_3) 155 (if (v_costs ((x1 * (31 : Int32)) + l6_3).toNatClampNeg) = (-1 : Int32) then (k (l4_1, l5_2, (l6_3 + (1 : Int32)))) else (gi l6_3 31 (if (v_times l6_3.toNatClampNeg) < x3 then (k (l4_1, l5_2, (l6_3 + (1 : Int32)))) else (if l4_1 = (-1 : Int32) then (k (l6_3, (v_costs ((x1 * (31 : Int32)) + l6_3).toNatClampNeg), (l6_3 + (1 : Int32)))) else (if l5_2 ≤ (v_costs ((x1 * (31 : Int32)) + l6_3).toNatClampNeg) then (k (l4_1, l5_2, (l6_3 + (1 : Int32)))) else (k (l6_3, (v_costs ((x1 * (31 : Int32)) + l6_3).toNatClampNeg), (l6_3 + (1 : Int32))))))))))
def F_X4_cheapest (x1 : Int32) (x2 : Int32) (x3 : Int32) (v_boundaryCount : Int32) (v_costs : Nat → Int32) (v_times : Nat → Int32) : Option (Int32) := ob1 (wh (fun k q => S_X4_cheapest_9 x1 x3 v_boundaryCount v_costs v_times k q.1 q.2.1 q.2.2) wF ((-1 : Int32), (-1 : Int32), x2)) (fun e_12 => some e_12)
def F_X4_leastCost_b37 (x2 : Int32) (x3 : Int32) (st_1 : Int32) (st_2 : Int32) (v_boundaryCount : Int32) (v_costs : Nat → Int32) (v_times : Nat → Int32) (v_p1_slots_slotCount : Int32) (v_p1_settings : Nat → Int32) : Option (Int32) := if (x2 + (1 : Int32)) < v_p1_slots_slotCount then (gi x3 31 (gi (5 : Int32) 6 (ob1 (F_X4_cheapest (x2 + (1 : Int32)) (x3 + (1 : Int32)) ((v_times x3.toNatClampNeg) + (v_p1_settings (5 : Int32).toNatClampNeg)) v_boundaryCount v_costs v_times) (fun r_5 => if r_5 = (-1 : Int32) then (some (-1 : Int32)) else (gi (((x2 + (1 : Int32)) * (31 : Int32)) + r_5) 155 (some ((st_2 + st_1) + (v_costs (((x2 + (1 : Int32)) * (31 : Int32)) + r_5).toNatClampNeg)))))))) else (some (st_2 + st_1))
def F_X4_leastCost (x2 : Int32) (x3 : Int32) (v_boundaryCount : Int32) (v_costs : Nat → Int32) (v_times : Nat → Int32) (v_cuts : Nat → Int32) (v_p1_transcript_order : Nat → Int32) (v_p1_transcript_pauses : Nat → Int32) (v_p1_slots_slotCount : Int32) (v_p1_slots_wishes : Nat → Int32) (v_p1_slots_reaches : Nat → Int32) (v_p1_settings : Nat → Int32) : Option (Int32) := ob1 (F_X4_isChoice x2 x3 v_times v_p1_transcript_order v_p1_transcript_pauses v_p1_slots_wishes v_p1_slots_reaches v_p1_settings) (fun r_9 => if r_9 = 0 then (some (-1 : Int32)) else (ob1 (F_X4_distance x2 x3 v_times v_p1_slots_wishes) (fun r_10 => gi x3 31 (if (v_cuts x3.toNatClampNeg) = 0 then (F_X4_leastCost_b37 x2 x3 (20 : Int32) r_10 v_boundaryCount v_costs v_times v_p1_slots_slotCount v_p1_settings) else (F_X4_leastCost_b37 x2 x3 (0 : Int32) r_10 v_boundaryCount v_costs v_times v_p1_slots_slotCount v_p1_settings)))))
def F_X4_takeBest_b62 (k : Int32 × Int32 × Int32 × (Int32) × (Nat → Int32) → Option (((Int32) × (Nat → Int32)) ⊕ ((Int32) × (Nat → Int32)))) (l4_6 : Int32) (l5_7 : Int32) (v_bestCost_8 : Int32) (v_boundaryCount : Int32) (v_places_9 : Nat → Int32) (v_costs : Nat → Int32) (v_times : Nat → Int32) (v_p1_slots_slotCount : Int32) (v_p1_settings : Nat → Int32) : Option (((Int32) × (Nat → Int32)) ⊕ ((Int32) × (Nat → Int32))) := gi l4_6 5 (gi l5_7 31 (gi (5 : Int32) 6 (k ((l5_7 + (1 : Int32)), ((v_times l5_7.toNatClampNeg) + (v_p1_settings (5 : Int32).toNatClampNeg)), (l4_6 + (1 : Int32)), v_bestCost_8, (upd v_places_9 l4_6.toNatClampNeg l5_7)))))
def S_X4_takeBest_12 (v_boundaryCount : Int32) (v_costs : Nat → Int32) (v_times : Nat → Int32) (v_p1_slots_slotCount : Int32) (v_p1_settings : Nat → Int32) (k : Int32 × Int32 × Int32 × (Int32) × (Nat → Int32) → Option (((Int32) × (Nat → Int32)) ⊕ ((Int32) × (Nat → Int32)))) (l2_1 : Int32) (l3_2 : Int32) (l4_3 : Int32) (v_bestCost_4 : Int32) (v_places_5 : Nat → Int32) : Option (((Int32) × (Nat → Int32)) ⊕ ((Int32) × (Nat → Int32))) := if v_p1_slots_slotCount ≤ l4_3 then (some (.inr (v_bestCost_4, v_places_5))) else (ob1 (F_X4_cheapest l4_3 l2_1 l3_2 v_boundaryCount v_costs v_times) (fun r_13 => if r_13 = (-1 : Int32) then (some (.inl (v_bestCost_4, v_places_5))) else (if l4_3 = 0 then (gi r_13 155 (F_X4_takeBest_b62 k l4_3 r_13 (v_costs r_13.toNatClampNeg) v_boundaryCount v_places_5 v_costs v_times v_p1_slots_slotCount v_p1_settings)) else (F_X4_takeBest_b62 k l4_3 r_13 v_bestCost_4 v_boundaryCount v_places_5 v_costs v_times v_p1_slots_slotCount v_p1_settings))))
def F_X4_takeBest (v_bestCost : Int32) (v_boundaryCount : Int32) (v_places : Nat → Int32) (v_costs : Nat → Int32) (v_times : Nat → Int32) (v_p1_slots_slotCount : Int32) (v_p1_settings : Nat → Int32) : Option ((Int32) × (Nat → Int32)) := ob1 (wh (fun k q => S_X4_takeBest_12 v_boundaryCount v_costs v_times v_p1_slots_slotCount v_p1_settings k q.1 q.2.1 q.2.2.1 q.2.2.2.1 q.2.2.2.2) wF ((0 : Int32), (0 : Int32), (0 : Int32), (0 : Int32), v_places)) (Sum.elim (un2 (fun e_22 e_23 => some ((-1 : Int32), e_23))) (un2 (fun e_25 e_26 => some (e_25, e_26))))
def S_X4_update_13 (v_bestCost_3 : Int32) (v_boundaryCount_4 : Int32) (v_places_5 : Nat → Int32) (v_costs_6 : Nat → Int32) (v_p1_transcript_order : Nat → Int32) (v_p1_transcript_pauses : Nat → Int32) (v_p1_slots_slotCount : Int32) (v_p1_slots_wishes : Nat → Int32) (v_p1_slots_reaches : Nat → Int32) (v_p1_settings : Nat → Int32) (v_p2_chapterCount : Int32) (v_p2_chapterAt : Nat → Int32) (v_p2_starts : Nat → Int32) (k : Int32 × (Nat → Int32) × (Nat → Int32) → Option (((Nat → Int32) × (Nat → Int32)))) (l3_2 : Int32) (v_times_7 : Nat → Int32) (v_cuts_8 : Nat → Int32) : Option (((Nat → Int32) × (Nat → Int32))) := if v_boundaryCount_4 ≤ l3_2 then (some (v_times_7, v_cuts_8)) else (ob1 (F_X0_timeOf l3_2 v_p2_starts) (fun r_9 => gi l3_2 31 (ob1 (F_X0_isCut l3_2 v_p2_chapterCount v_p2_chapterAt) (fun r_11 => gi l3_2 31 (k ((l3_2 + (1 : Int32)), (upd v_times_7 l3_2.toNatClampNeg r_9), (upd v_cuts_8 l3_2.toNatClampNeg (vp_nar .boolean r_11))))))))
def S_X4_update_66 (l3_25 : Int32) (v_bestCost_19 : Int32) (v_boundaryCount_20 : Int32) (v_places_21 : Nat → Int32) (v_times_23 : Nat → Int32) (v_cuts_24 : Nat → Int32) (v_p1_transcript_order : Nat → Int32) (v_p1_transcript_pauses : Nat → Int32) (v_p1_slots_slotCount : Int32) (v_p1_slots_wishes : Nat → Int32) (v_p1_slots_reaches : Nat → Int32) (v_p1_settings : Nat → Int32) (k : Int32 × (Nat → Int32) → Option (((Nat → Int32)))) (l4_26 : Int32) (v_costs_27 : Nat → Int32) : Option (((Nat → Int32))) := if v_boundaryCount_20 ≤ l4_26 then (some (v_costs_27)) else (ob1 (F_X4_leastCost l3_25 l4_26 v_boundaryCount_20 v_costs_27 v_times_23 v_cuts_24 v_p1_transcript_order v_p1_transcript_pauses v_p1_slots_slotCount v_p1_slots_wishes v_p1_slots_reaches v_p1_settings) (fun r_28 => gi ((l3_25 * (31 : Int32)) + l4_26) 155 (k ((l4_26 + (1 : Int32)), (upd v_costs_27 ((l3_25 * (31 : Int32)) + l4_26).toNatClampNeg r_28)))))
def S_X4_update_59 (v_bestCost_19 : Int32) (v_boundaryCount_20 : Int32) (v_places_21 : Nat → Int32) (v_times_23 : Nat → Int32) (v_cuts_24 : Nat → Int32) (v_p1_transcript_order : Nat → Int32) (v_p1_transcript_pauses : Nat → Int32) (v_p1_slots_slotCount : Int32) (v_p1_slots_wishes : Nat → Int32) (v_p1_slots_reaches : Nat → Int32) (v_p1_settings : Nat → Int32) (k : Int32 × (Nat → Int32) → Option (((Nat → Int32)))) (l3_18 : Int32) (v_costs_22 : Nat → Int32) : Option (((Nat → Int32))) := if l3_18 < 0 then (some (v_costs_22)) else (ob1 (wh (fun k q => S_X4_update_66 l3_18 v_bestCost_19 v_boundaryCount_20 v_places_21 v_times_23 v_cuts_24 v_p1_transcript_order v_p1_transcript_pauses v_p1_slots_slotCount v_p1_slots_wishes v_p1_slots_reaches v_p1_settings k q.1 q.2) wF ((0 : Int32), v_costs_22)) (fun e_32 => k ((l3_18 + (-1 : Int32)), e_32)))
def F_X4_update (v_bestCost : Int32) (v_boundaryCount : Int32) (v_places : Nat → Int32) (v_costs : Nat → Int32) (v_times : Nat → Int32) (v_cuts : Nat → Int32) (v_p1_transcript_segmentCount : Int32) (v_p1_transcript_order : Nat → Int32) (v_p1_transcript_pauses : Nat → Int32) (v_p1_slots_slotCount : Int32) (v_p1_slots_wishes : Nat → Int32) (v_p1_slots_reaches : Nat → Int32) (v_p1_settings : Nat → Int32) (v_p2_chapterCount : Int32) (v_p2_chapterAt : Nat → Int32) (v_p2_starts : Nat → Int32) : Option ((Int32) × (Int32) × (Nat → Int32) × (Nat → Int32) × (Nat → Int32) × (Nat → Int32)) := ob1 (F_X9_boundaryCount v_p1_transcript_segmentCount) (fun r_1 => ob2 (wh (fun k q => S_X4_update_13 v_bestCost r_1 v_places v_costs v_p1_transcript_order v_p1_transcript_pauses v_p1_slots_slotCount v_p1_slots_wishes v_p1_slots_reaches v_p1_settings v_p2_chapterCount v_p2_chapterAt v_p2_starts k q.1 q.2.1 q.2.2) wF ((0 : Int32), v_times, v_cuts)) (fun e_16 e_17 => ob1 (wh (fun k q => S_X4_update_59 v_bestCost r_1 v_places e_16 e_17 v_p1_transcript_order v_p1_transcript_pauses v_p1_slots_slotCount v_p1_slots_wishes v_p1_slots_reaches v_p1_settings k q.1 q.2) wF ((v_p1_slots_slotCount - (1 : Int32)), v_costs)) (fun e_35 => ob2 (F_X4_takeBest v_bestCost r_1 v_places e_35 e_16 v_p1_slots_slotCount v_p1_settings) (fun v_bestCost_36 v_places_37 => some (v_bestCost_36, r_1, v_places_37, e_35, e_16, e_17)))))
def S_X4_countChoices_5 (x2 : Int32) (v_boundaryCount : Int32) (v_times : Nat → Int32) (v_p1_transcript_order : Nat → Int32) (v_p1_transcript_pauses : Nat → Int32) (v_p1_slots_wishes : Nat → Int32) (v_p1_slots_reaches : Nat → Int32) (v_p1_settings : Nat → Int32) (k : Int32 × Int32 → Option ((Int32))) (l3_1 : Int32) (l4_2 : Int32) : Option ((Int32)) := if v_boundaryCount ≤ l4_2 then (some (l3_1)) else (ob1 (F_X4_isChoice x2 l4_2 v_times v_p1_transcript_order v_p1_transcript_pauses v_p1_slots_wishes v_p1_slots_reaches v_p1_settings) (fun r_3 => if r_3 = 0 then (k (l3_1, (l4_2 + (1 : Int32)))) else (k ((l3_1 + (1 : Int32)), (l4_2 + (1 : Int32))))))
def F_X4_countChoices (x2 : Int32) (v_boundaryCount : Int32) (v_times : Nat → Int32) (v_p1_transcript_order : Nat → Int32) (v_p1_transcript_pauses : Nat → Int32) (v_p1_slots_wishes : Nat → Int32) (v_p1_slots_reaches : Nat → Int32) (v_p1_settings : Nat → Int32) : Option (Int32) := ob1 (wh (fun k q => S_X4_countChoices_5 x2 v_boundaryCount v_times v_p1_transcript_order v_p1_transcript_pauses v_p1_slots_wishes v_p1_slots_reaches v_p1_settings k q.1 q.2) wF ((0 : Int32), (0 : Int32))) (fun e_7 => some e_7)
def S_X4_realTime_22 (x2 : Int32) (v_places : Nat → Int32) (v_p1_slots_slotCount : Int32) (v_p1_slots_lengths : Nat → Int32) (k : Int32 × Int32 → Option ((Int32))) (l3_2 : Int32) (l4_3 : Int32) : Option ((Int32)) := if v_p1_slots_slotCount ≤ l4_3 then (some (l3_2)) else (gi l4_3 5 (if x2 ≤ (v_places l4_3.toNatClampNeg) then (k (l3_2, (l4_3 + (1 : Int32)))) else (gi l4_3 5 (k ((l3_2 + (v_p1_slots_lengths l4_3.toNatClampNeg)), (l4_3 + (1 : Int32)))))))
def F_X4_realTime (x2 : Int32) (v_bestCost : Int32) (v_places : Nat → Int32) (v_p1_transcript_order : Nat → Int32) (v_p1_transcript_durations : Nat → Int32) (v_p1_slots_slotCount : Int32) (v_p1_slots_lengths : Nat → Int32) : Option (Int32) := ob1 (F_X9_startOf x2 v_p1_transcript_order v_p1_transcript_durations) (fun r_1 => if v_bestCost = (-1 : Int32) then (some r_1) else (ob1 (wh (fun k q => S_X4_realTime_22 x2 v_places v_p1_slots_slotCount v_p1_slots_lengths k q.1 q.2) wF (r_1, (0 : Int32))) (fun e_9 => some e_9)))
def F_X8_update_b89 (k : Int32 × (Nat → Int32) → Option (((Nat → Int32)))) (l3_9 : Int32) (l4_10 : Int32) (l5_14 : Int32) (st_15 : Int32) (st_16 : Int32) (st_17 : Int32) (v_spread_18 : Nat → Int32) (v_counts_13 : Nat → Int32) (v_p1_order : Nat → Int32) (v_p1_sizes : Nat → Int32) (v_p1_words : Nat → Int32) (v_p2_chapterCount : Int32) (v_p2_segmentCount : Int32) (v_p2_firsts : Nat → Int32) : Option (((Nat → Int32))) := gi st_17 24 (k ((l5_14 + (1 : Int32)), (upd v_spread_18 st_17.toNatClampNeg (st_16 + st_15))))
def S_X8_update_56 (l3_9 : Int32) (l4_10 : Int32) (v_counts_13 : Nat → Int32) (v_p1_order : Nat → Int32) (v_p1_sizes : Nat → Int32) (v_p1_words : Nat → Int32) (v_p2_chapterCount : Int32) (v_p2_segmentCount : Int32) (v_p2_firsts : Nat → Int32) (k : Int32 × (Nat → Int32) → Option (((Nat → Int32)))) (l5_11 : Int32) (v_spread_12 : Nat → Int32) : Option (((Nat → Int32))) := if (24 : Int32) ≤ l5_11 then (some (v_spread_12)) else (gi l5_11 24 (gi (l4_10 + l5_11) 768 (if (v_counts_13 (l4_10 + l5_11).toNatClampNeg) ≤ 0 then (F_X8_update_b89 k l3_9 l4_10 l5_11 (0 : Int32) (v_spread_12 l5_11.toNatClampNeg) l5_11 v_spread_12 v_counts_13 v_p1_order v_p1_sizes v_p1_words v_p2_chapterCount v_p2_segmentCount v_p2_firsts) else (F_X8_update_b89 k l3_9 l4_10 l5_11 (1 : Int32) (v_spread_12 l5_11.toNatClampNeg) l5_11 v_spread_12 v_counts_13 v_p1_order v_p1_sizes v_p1_words v_p2_chapterCount v_p2_segmentCount v_p2_firsts))))
def S_X8_update_18 (v_p1_order : Nat → Int32) (v_p1_sizes : Nat → Int32) (v_p1_words : Nat → Int32) (v_p2_chapterCount : Int32) (v_p2_segmentCount : Int32) (v_p2_firsts : Nat → Int32) (k : Int32 × (Nat → Int32) × (Nat → Int32) → Option (((Nat → Int32) × (Nat → Int32)))) (l3_3 : Int32) (v_spread_4 : Nat → Int32) (v_counts_5 : Nat → Int32) : Option (((Nat → Int32) × (Nat → Int32))) := if v_p2_chapterCount ≤ l3_3 then (some (v_spread_4, v_counts_5)) else (gi l3_3 32 (ob1 (F_X0_lastOf l3_3 v_p2_chapterCount v_p2_segmentCount v_p2_firsts) (fun r_7 => ob1 (F_X9_tally 768 (v_p2_firsts l3_3.toNatClampNeg) r_7 (l3_3 * (24 : Int32)) v_p1_order v_p1_sizes v_p1_words v_counts_5) (fun v_counts_8 => ob1 (wh (fun k q => S_X8_update_56 l3_3 (l3_3 * (24 : Int32)) v_counts_8 v_p1_order v_p1_sizes v_p1_words v_p2_chapterCount v_p2_segmentCount v_p2_firsts k q.1 q.2) wF ((0 : Int32), v_spread_4)) (fun e_25 => k ((l3_3 + (1 : Int32)), e_25, v_counts_8))))))
def F_X8_update (v_spread : Nat → Int32) (v_counts : Nat → Int32) (v_p1_order : Nat → Int32) (v_p1_sizes : Nat → Int32) (v_p1_words : Nat → Int32) (v_p2_chapterCount : Int32) (v_p2_segmentCount : Int32) (v_p2_firsts : Nat → Int32) : Option ((Nat → Int32) × (Nat → Int32)) := ob1 (F_J7_fill_53178 768 (0 : Int32) v_counts) (fun v_counts_1 => ob1 (F_J7_fill_53178 24 (0 : Int32) v_spread) (fun v_spread_2 => ob2 (wh (fun k q => S_X8_update_18 v_p1_order v_p1_sizes v_p1_words v_p2_chapterCount v_p2_segmentCount v_p2_firsts k q.1 q.2.1 q.2.2) wF ((0 : Int32), v_spread_2, v_counts_1)) (fun e_29 e_30 => some (e_29, e_30))))
def F_X8_stands (x1 : Int32) (x2 : Int32) (v_counts : Nat → Int32) : Option (Int32) := gi ((x1 * (24 : Int32)) + x2) 768 (if (v_counts ((x1 * (24 : Int32)) + x2).toNatClampNeg) ≤ 0 then (some (0 : Int32)) else (some (1 : Int32)))
def S_X8_differentWords_4 (x1 : Int32) (v_counts : Nat → Int32) (k : Int32 × Int32 → Option ((Int32))) (l2_1 : Int32) (l3_2 : Int32) : Option ((Int32)) := if (24 : Int32) ≤ l3_2 then (some (l2_1)) else (ob1 (F_X8_stands x1 l3_2 v_counts) (fun r_3 => if r_3 = 0 then (k (l2_1, (l3_2 + (1 : Int32)))) else (k ((l2_1 + (1 : Int32)), (l3_2 + (1 : Int32))))))
def F_X8_differentWords (x1 : Int32) (v_counts : Nat → Int32) : Option (Int32) := ob1 (wh (fun k q => S_X8_differentWords_4 x1 v_counts k q.1 q.2) wF ((0 : Int32), (0 : Int32))) (fun e_7 => some e_7)
def F_X8_markOf (x1 : Int32) (x2 : Int32) (v_spread : Nat → Int32) (v_counts : Nat → Int32) : Option (Int32) := gi x2 24 (if (v_spread x2.toNatClampNeg) = 0 then (some (0 : Int32)) else (gi ((x1 * (24 : Int32)) + x2) 768 (gzi (v_spread x2.toNatClampNeg) (some (((1000 : Int32) * (v_counts ((x1 * (24 : Int32)) + x2).toNatClampNeg)) / (v_spread x2.toNatClampNeg))))))
def S_X8_mostTypical_30 (x2 : Int32) (x4 : Int32) (l5_5 : Int32) (l6_6 : Int32) (l7_7 : Int32) (l9_9 : Int32) (v_spread : Nat → Int32) (v_counts : Nat → Int32) (v_p1_order : Nat → Int32) (v_p1_sizes : Nat → Int32) (v_p1_words : Nat → Int32) (k : Int32 × Int32 → Option ((Int32))) (l8_8 : Int32) (l10_10 : Int32) : Option ((Int32)) := if l9_9 ≤ l10_10 then (some (l8_8)) else (ob1 (F_X9_wordAt l7_7 l10_10 v_p1_order v_p1_words) (fun r_11 => ob1 (F_X8_markOf x2 r_11 v_spread v_counts) (fun r_12 => k ((l8_8 + r_12), (l10_10 + (1 : Int32))))))
def S_X8_mostTypical_9 (x2 : Int32) (x4 : Int32) (v_spread : Nat → Int32) (v_counts : Nat → Int32) (v_p1_order : Nat → Int32) (v_p1_sizes : Nat → Int32) (v_p1_words : Nat → Int32) (k : Int32 × Int32 × Int32 → Option ((Int32))) (l5_1 : Int32) (l6_2 : Int32) (l7_3 : Int32) : Option ((Int32)) := if x4 < l7_3 then (some (l5_1)) else (ob1 (F_X9_sizeOf l7_3 v_p1_order v_p1_sizes) (fun r_4 => ob1 (wh (fun k q => S_X8_mostTypical_30 x2 x4 l5_1 l6_2 l7_3 r_4 v_spread v_counts v_p1_order v_p1_sizes v_p1_words k q.1 q.2) wF ((0 : Int32), (0 : Int32))) (fun e_15 => if e_15 ≤ l6_2 then (k (l5_1, l6_2, (l7_3 + (1 : Int32)))) else (k (l7_3, e_15, (l7_3 + (1 : Int32)))))))
def F_X8_mostTypical (x2 : Int32) (x3 : Int32) (x4 : Int32) (v_spread : Nat → Int32) (v_counts : Nat → Int32) (v_p1_order : Nat → Int32) (v_p1_sizes : Nat → Int32) (v_p1_words : Nat → Int32) : Option (Int32) := ob1 (wh (fun k q => S_X8_mostTypical_9 x2 x4 v_spread v_counts v_p1_order v_p1_sizes v_p1_words k q.1 q.2.1 q.2.2) wF (x3, (-1 : Int32), x3)) (fun e_19 => some e_19)
def S_X10_percentAlike_p2p0_9 (n0 : Nat) (n2 : Nat) (x1 : Int32) (x3 : Int32) (v_p0 : Nat → Int32) (k : Int32 × Int32 × Int32 → Option ((Int32 × Int32))) (l4_1 : Int32) (l5_2 : Int32) (l6_3 : Int32) : Option ((Int32 × Int32)) := if (24 : Int32) ≤ l6_3 then (some (l4_1, l5_2)) else (gi (x1 + l6_3) n0 (gi (x3 + l6_3) n0 (k ((l4_1 + (if (v_p0 (x3 + l6_3).toNatClampNeg) < (v_p0 (x1 + l6_3).toNatClampNeg) then (v_p0 (x3 + l6_3).toNatClampNeg) else (v_p0 (x1 + l6_3).toNatClampNeg))), (l5_2 + (if (v_p0 (x1 + l6_3).toNatClampNeg) < (v_p0 (x3 + l6_3).toNatClampNeg) then (v_p0 (x3 + l6_3).toNatClampNeg) else (v_p0 (x1 + l6_3).toNatClampNeg))), (l6_3 + (1 : Int32))))))
def F_X10_percentAlike_p2p0 (n0 : Nat) (n2 : Nat) (x1 : Int32) (x3 : Int32) (v_p0 : Nat → Int32) : Option (Int32) := ob2 (wh (fun k q => S_X10_percentAlike_p2p0_9 n0 n2 x1 x3 v_p0 k q.1 q.2.1 q.2.2) wF ((0 : Int32), (0 : Int32), (0 : Int32))) (fun e_9 e_10 => if e_10 = 0 then (some (0 : Int32)) else (gzi e_10 (some (((100 : Int32) * e_9) / e_10))))
def F_X8_chapterLikeness (x1 : Int32) (x2 : Int32) (v_counts : Nat → Int32) : Option (Int32) := ob1 (F_X10_percentAlike_p2p0 768 768 (x1 * (24 : Int32)) (x2 * (24 : Int32)) v_counts) (fun r_1 => some r_1)
def F_X8_precedes (x1 : Int32) (x2 : Int32) (x3 : Int32) (v_spread : Nat → Int32) (v_counts : Nat → Int32) : Option (Int32) := ob1 (F_X8_markOf x1 x2 v_spread v_counts) (fun r_1 => ob1 (F_X8_markOf x1 x3 v_spread v_counts) (fun r_2 => if r_2 < r_1 then (some (1 : Int32)) else (if r_1 = r_2 then (if x3 ≤ x2 then (some (0 : Int32)) else (some (1 : Int32))) else (some (0 : Int32)))))
def F_X8_nextInTitle_b43 (k : Int32 × Int32 → Option ((Int32))) (x1 : Int32) (x2 : Int32) (l3_3 : Int32) (l4_4 : Int32) (st_5 : Int32) (v_spread : Nat → Int32) (v_counts : Nat → Int32) : Option ((Int32)) := if st_5 = 0 then (k (l3_3, (l4_4 + (1 : Int32)))) else (if l3_3 = (-1 : Int32) then (k (l4_4, (l4_4 + (1 : Int32)))) else (ob1 (F_X8_precedes x1 l4_4 l3_3 v_spread v_counts) (fun r_6 => if r_6 = 0 then (k (l3_3, (l4_4 + (1 : Int32)))) else (k (l4_4, (l4_4 + (1 : Int32)))))))
def F_X8_nextInTitle_b42 (k : Int32 × Int32 → Option ((Int32))) (x1 : Int32) (x2 : Int32) (l3_10 : Int32) (l4_11 : Int32) (v_spread : Nat → Int32) (v_counts : Nat → Int32) : Option ((Int32)) := F_X8_nextInTitle_b43 k x1 x2 l3_10 l4_11 (0 : Int32) v_spread v_counts
def F_X8_nextInTitle_b38 (k : Int32 × Int32 → Option ((Int32))) (x1 : Int32) (x2 : Int32) (l3_12 : Int32) (l4_13 : Int32) (v_spread : Nat → Int32) (v_counts : Nat → Int32) : Option ((Int32)) := F_X8_nextInTitle_b43 k x1 x2 l3_12 l4_13 (1 : Int32) v_spread v_counts
def S_X8_nextInTitle_5 (x1 : Int32) (x2 : Int32) (v_spread : Nat → Int32) (v_counts : Nat → Int32) (k : Int32 × Int32 → Option ((Int32))) (l3_1 : Int32) (l4_2 : Int32) : Option ((Int32)) := if (24 : Int32) ≤ l4_2 then (some (l3_1)) else (ob1 (F_X8_stands x1 l4_2 v_counts) (fun r_14 => if r_14 = 0 then (F_X8_nextInTitle_b42 k x1 x2 l3_1 l4_2 v_spread v_counts) else (if x2 = (-1 : Int32) then (F_X8_nextInTitle_b38 k x1 x2 l3_1 l4_2 v_spread v_counts) else (ob1 (F_X8_precedes x1 x2 l4_2 v_spread v_counts) (fun r_15 => if r_15 = 0 then (F_X8_nextInTitle_b42 k x1 x2 l3_1 l4_2 v_spread v_counts) else (F_X8_nextInTitle_b38 k x1 x2 l3_1 l4_2 v_spread v_counts))))))
def F_X8_nextInTitle (x1 : Int32) (x2 : Int32) (v_spread : Nat → Int32) (v_counts : Nat → Int32) : Option (Int32) := ob1 (wh (fun k q => S_X8_nextInTitle_5 x1 x2 v_spread v_counts k q.1 q.2) wF ((-1 : Int32), (0 : Int32))) (fun e_21 => some e_21)
def S_X8_titleWord_10 (x1 : Int32) (x2 : Int32) (v_spread : Nat → Int32) (v_counts : Nat → Int32) (k : Int32 × Int32 → Option ((Int32))) (l3_2 : Int32) (l4_3 : Int32) : Option ((Int32)) := if x2 ≤ l4_3 then (some (l3_2)) else (if l3_2 = (-1 : Int32) then (some (l3_2)) else (ob1 (F_X8_nextInTitle x1 l3_2 v_spread v_counts) (fun r_4 => k (r_4, (l4_3 + (1 : Int32))))))
def F_X8_titleWord (x1 : Int32) (x2 : Int32) (v_spread : Nat → Int32) (v_counts : Nat → Int32) : Option (Int32) := ob1 (F_X8_nextInTitle x1 (-1 : Int32) v_spread v_counts) (fun r_1 => ob1 (wh (fun k q => S_X8_titleWord_10 x1 x2 v_spread v_counts k q.1 q.2) wF (r_1, (0 : Int32))) (fun e_8 => some e_8))
theorem hy_J7_fill_53178 : yJ7_fill_53178.cls = RJ7 ∧ yJ7_fill_53178.cls ≠ "java/lang/invoke/MethodHandle" ∧ yJ7_fill_53178.cls ≠ "java/lang/invoke/VarHandle" ∧ (parseMethodDescriptor yJ7_fill_53178.desc).map (fun d => d.parameters.length) = some 2 := by decide +kernel
set_option maxRecDepth 20000 in
set_option maxHeartbeats 4000000 in
theorem k_J7_fill_53178 (l : Launch) (D : va_G) (cI cJ cZ cO : ClassId) (z : Nat → Nat) (n0 : Nat)  (h_p0 : Nat) (x1 : Int32) (v_p0 : Nat → Int32) (w_p0 : Nat → Int32) (hF : F_J7_fill_53178 n0 x1 v_p0 = some w_p0) : Mv l yJ7_fill_53178 wsJ7_fill_53178 (rmD 0) D (gq_ty cI cJ cZ cO) z [.ref h_p0, .int x1] [(h_p0, .inl (cI, n0, .inl v_p0))] [(h_p0, .inl (cI, n0, .inl w_p0))] 0 0 := by
  refine Mv.of (cc := cJ7_fill_53178) (maxL := 4) (by decide) rfl (Nat.le_of_ble_eq_true rfl) ⟨Nat.le_refl 0, Nat.le_refl 0⟩ ?_
  intro p e s m args below meth c A hC ha
  obtain ⟨Q, hQ⟩ : ∃ Q, Q = gq_Qv below D A args s [(h_p0, .inl (cI, n0, .inl w_p0))] 0 0 := ⟨_, rfl⟩
  rw [← hQ]
  refine gq_loc [(0, .ref h_p0), (1, .int x1)] rfl ?_
  unfold F_J7_fill_53178 at hF
  refine gq_iconst hC (0 : Int32) dJ7_fill_53178_0 (by decide) ?_
  refine gq_istore_n hC [(2, .int (0 : Int32)), (0, .ref h_p0), (1, .int x1)] dJ7_fill_53178_1 rfl (by decide) rfl ?_
  refine gq_aload_n hC 1 dJ7_fill_53178_2 rfl rfl ?_
  refine gq_alen hC 0 0 (Int32.ofNat n0) rfl rfl rfl dJ7_fill_53178_3 ?_
  refine gq_istore_n hC [(3, .int (Int32.ofNat n0)), (2, .int (0 : Int32)), (0, .ref h_p0), (1, .int x1)] dJ7_fill_53178_4 rfl (by decide) rfl ?_
  have lp5 : ∀ (l3_2 : Int32), ∀ (e_6 : (Nat → Int32)), Gx p l e (rmD 0) s m args below meth c D A 4 Q 0 0 20 [] [] [(h_p0, .inl (cI, n0, .inl e_6))] → ∀ (N : Nat) (l2_1 : Int32) (v_p0_3 : Nat → Int32), wh (fun k q => S_J7_fill_53178_5 n0 x1 l3_2 k q.1 q.2) N (l2_1, v_p0_3) = some e_6 → Gx p l e (rmD 0) s m args below meth c D A 4 Q 0 0 5 [(0, .ref h_p0), (1, .int x1), (2, .int l2_1), (3, .int l3_2)] [] [(h_p0, .inl (cI, n0, .inl v_p0_3))] := by
    intro l3_2 e_6 hx0 N
    induction N with
    | zero => intro l2_1 v_p0_3 hw; exact absurd hw (wh_0 _ _ _)
    | succ N ih =>
      intro l2_1 v_p0_3 hw
      have hF : S_J7_fill_53178_5 n0 x1 l3_2 (wh (fun k q => S_J7_fill_53178_5 n0 x1 l3_2 k q.1 q.2) N) l2_1 v_p0_3 = some e_6 := hw
      unfold S_J7_fill_53178_5 at hF
      refine gq_iload_n hC 2 dJ7_fill_53178_5 rfl rfl ?_
      refine gq_iload_n hC 3 dJ7_fill_53178_6 rfl rfl ?_
      refine gq_icmp_ge hC 20 dJ7_fill_53178_7 (by decide) (fun hc_5 => ?_) (fun hc_5 => ?_)
      · have hF := (if_pos hc_5).symm.trans hF
        refine gq_sub [] [] rfl ?_
        cases hF
        exact hx0
      · have hF := (if_neg hc_5).symm.trans hF
        refine gq_aload_n hC 0 dJ7_fill_53178_10 rfl rfl ?_
        refine gq_iload_n hC 2 dJ7_fill_53178_11 rfl rfl ?_
        refine gq_iload_n hC 1 dJ7_fill_53178_12 rfl rfl ?_
        obtain ⟨hi_4, hF⟩ := gi_e hF
        refine gq_iast hC 0 0 [(h_p0, .inl (cI, n0, .inl (upd v_p0_3 l2_1.toNatClampNeg x1)))] rfl rfl hi_4 dJ7_fill_53178_13 rfl ?_
        refine gq_iinc hC 2 (l2_1 + (1 : Int32)) [(2, .int (l2_1 + (1 : Int32))), (0, .ref h_p0), (1, .int x1), (3, .int l3_2)] dJ7_fill_53178_14 rfl rfl (by decide) rfl ?_
        refine gq_goto hC 5 dJ7_fill_53178_17 (by decide) ?_
        refine gq_sub [(0, .ref h_p0), (1, .int x1), (2, .int (l2_1 + (1 : Int32))), (3, .int l3_2)] [1, 2, 0, 3] rfl ?_
        exact ih (l2_1 + (1 : Int32)) (upd v_p0_3 l2_1.toNatClampNeg x1) hF
  refine gq_sub [(0, .ref h_p0), (1, .int x1), (2, .int (0 : Int32)), (3, .int (Int32.ofNat n0))] [2, 3, 1, 0] rfl ?_
  obtain ⟨e_7, hw_, hF⟩ := ob1_e hF
  refine lp5 (Int32.ofNat n0) e_7 ?_ wF (0 : Int32) v_p0 hw_
  cases hF
  rw [hQ]
  exact gq_vret hC dJ7_fill_53178_20
theorem hy_X10_percentAlike : yX10_percentAlike.cls = RX10 ∧ yX10_percentAlike.cls ≠ "java/lang/invoke/MethodHandle" ∧ yX10_percentAlike.cls ≠ "java/lang/invoke/VarHandle" ∧ (parseMethodDescriptor yX10_percentAlike.desc).map (fun d => d.parameters.length) = some 4 := by decide +kernel
set_option maxRecDepth 20000 in
set_option maxHeartbeats 4000000 in
theorem k_X10_percentAlike (l : Launch) (D : va_G) (cI cJ cZ cO : ClassId) (z : Nat → Nat) (n0 : Nat) (n2 : Nat)  (h_p0 : Nat) (h_p2 : Nat) (x1 : Int32) (x3 : Int32) (v_p0 : Nat → Int32) (v_p2 : Nat → Int32) (r_ : Int32) (hF : F_X10_percentAlike n0 n2 x1 x3 v_p0 v_p2 = some r_) : Mi l yX10_percentAlike wsX10_percentAlike (rmD 1) D (gq_ty cI cJ cZ cO) z [.ref h_p0, .int x1, .ref h_p2, .int x3] [(h_p0, .inl (cI, n0, .inl v_p0)), (h_p2, .inl (cI, n2, .inl v_p2))] r_ [(h_p0, .inl (cI, n0, .inl v_p0)), (h_p2, .inl (cI, n2, .inl v_p2))] 0 0 := by
  refine Mi.of (cc := cX10_percentAlike) (maxL := 9) (by decide) rfl (Nat.le_of_ble_eq_true rfl) ⟨Nat.le_refl 0, Nat.le_refl 0⟩ ?_
  intro p e s m args below meth c A hC ha
  obtain ⟨Q, hQ⟩ : ∃ Q, Q = gq_Qi below D A args s r_ [(h_p0, .inl (cI, n0, .inl v_p0)), (h_p2, .inl (cI, n2, .inl v_p2))] 0 0 := ⟨_, rfl⟩
  rw [← hQ]
  refine gq_loc [(0, .ref h_p0), (1, .int x1), (2, .ref h_p2), (3, .int x3)] rfl ?_
  unfold F_X10_percentAlike at hF
  refine gq_iconst hC (0 : Int32) dX10_percentAlike_0 (by decide) ?_
  refine gq_istore hC [(4, .int (0 : Int32)), (0, .ref h_p0), (1, .int x1), (2, .ref h_p2), (3, .int x3)] dX10_percentAlike_1 (by decide) rfl ?_
  refine gq_iconst hC (0 : Int32) dX10_percentAlike_3 (by decide) ?_
  refine gq_istore hC [(5, .int (0 : Int32)), (4, .int (0 : Int32)), (0, .ref h_p0), (1, .int x1), (2, .ref h_p2), (3, .int x3)] dX10_percentAlike_4 (by decide) rfl ?_
  refine gq_iconst hC (0 : Int32) dX10_percentAlike_6 (by decide) ?_
  refine gq_istore hC [(6, .int (0 : Int32)), (5, .int (0 : Int32)), (4, .int (0 : Int32)), (0, .ref h_p0), (1, .int x1), (2, .ref h_p2), (3, .int x3)] dX10_percentAlike_7 (by decide) rfl ?_
  have lp9 : ∀ (e_7 : Int32) (e_8 : Int32), Gx p l e (rmD 1) s m args below meth c D A 9 Q 0 0 62 [(4, .int e_7), (5, .int e_8)] [] [(h_p0, .inl (cI, n0, .inl v_p0)), (h_p2, .inl (cI, n2, .inl v_p2))] → ∀ (N : Nat) (l4_1 : Int32) (l5_2 : Int32) (l6_3 : Int32), wh (fun k q => S_X10_percentAlike_9 n0 n2 x1 x3 v_p0 v_p2 k q.1 q.2.1 q.2.2) N (l4_1, l5_2, l6_3) = some (e_7, e_8) → Gx p l e (rmD 1) s m args below meth c D A 9 Q 0 0 9 [(0, .ref h_p0), (1, .int x1), (2, .ref h_p2), (3, .int x3), (4, .int l4_1), (5, .int l5_2), (6, .int l6_3)] [] [(h_p0, .inl (cI, n0, .inl v_p0)), (h_p2, .inl (cI, n2, .inl v_p2))] := by
    intro e_7 e_8 hx0 N
    induction N with
    | zero => intro l4_1 l5_2 l6_3 hw; exact absurd hw (wh_0 _ _ _)
    | succ N ih =>
      intro l4_1 l5_2 l6_3 hw
      have hF : S_X10_percentAlike_9 n0 n2 x1 x3 v_p0 v_p2 (wh (fun k q => S_X10_percentAlike_9 n0 n2 x1 x3 v_p0 v_p2 k q.1 q.2.1 q.2.2) N) l4_1 l5_2 l6_3 = some (e_7, e_8) := hw
      unfold S_X10_percentAlike_9 at hF
      refine gq_iload hC 6 dX10_percentAlike_9 rfl ?_
      refine gq_bipush hC (24 : Int32) dX10_percentAlike_11 (by decide) ?_
      refine gq_icmp_ge hC 62 dX10_percentAlike_13 (by decide) (fun hc_6 => ?_) (fun hc_6 => ?_)
      · have hF := (if_pos hc_6).symm.trans hF
        refine gq_sub [(4, .int l4_1), (5, .int l5_2)] [4, 5] rfl ?_
        cases hF
        exact hx0
      · have hF := (if_neg hc_6).symm.trans hF
        refine gq_aload_n hC 0 dX10_percentAlike_16 rfl rfl ?_
        refine gq_iload_n hC 1 dX10_percentAlike_17 rfl rfl ?_
        refine gq_iload hC 6 dX10_percentAlike_18 rfl ?_
        refine gq_iadd hC dX10_percentAlike_20 ?_
        obtain ⟨hi_4, hF⟩ := gi_e hF
        refine gq_iald hC 0 0 rfl rfl hi_4 dX10_percentAlike_21 ?_
        refine gq_istore hC [(7, .int (v_p0 (x1 + l6_3).toNatClampNeg)), (0, .ref h_p0), (1, .int x1), (2, .ref h_p2), (3, .int x3), (4, .int l4_1), (5, .int l5_2), (6, .int l6_3)] dX10_percentAlike_22 (by decide) rfl ?_
        refine gq_aload_n hC 3 dX10_percentAlike_24 rfl rfl ?_
        refine gq_iload_n hC 4 dX10_percentAlike_25 rfl rfl ?_
        refine gq_iload hC 7 dX10_percentAlike_26 rfl ?_
        refine gq_iadd hC dX10_percentAlike_28 ?_
        obtain ⟨hi_5, hF⟩ := gi_e hF
        refine gq_iald hC 1 0 rfl rfl hi_5 dX10_percentAlike_29 ?_
        refine gq_istore hC [(8, .int (v_p2 (x3 + l6_3).toNatClampNeg)), (7, .int (v_p0 (x1 + l6_3).toNatClampNeg)), (0, .ref h_p0), (1, .int x1), (2, .ref h_p2), (3, .int x3), (4, .int l4_1), (5, .int l5_2), (6, .int l6_3)] dX10_percentAlike_30 (by decide) rfl ?_
        refine gq_iload hC 6 dX10_percentAlike_32 rfl ?_
        refine gq_iload hC 1 dX10_percentAlike_34 rfl ?_
        refine gq_iload hC 0 dX10_percentAlike_36 rfl ?_
        refine gq_mmin hC ⟨by decide +kernel, by decide +kernel, by decide +kernel, by decide +kernel⟩ ⟨Nat.le_of_ble_eq_true rfl, Nat.le_of_ble_eq_true rfl⟩ dX10_percentAlike_38 ?_
        refine gq_iadd hC dX10_percentAlike_41 ?_
        refine gq_istore hC [(4, .int (l4_1 + (if (v_p2 (x3 + l6_3).toNatClampNeg) < (v_p0 (x1 + l6_3).toNatClampNeg) then (v_p2 (x3 + l6_3).toNatClampNeg) else (v_p0 (x1 + l6_3).toNatClampNeg)))), (8, .int (v_p2 (x3 + l6_3).toNatClampNeg)), (7, .int (v_p0 (x1 + l6_3).toNatClampNeg)), (0, .ref h_p0), (1, .int x1), (2, .ref h_p2), (3, .int x3), (5, .int l5_2), (6, .int l6_3)] dX10_percentAlike_42 (by decide) rfl ?_
        refine gq_iload hC 7 dX10_percentAlike_44 rfl ?_
        refine gq_iload hC 2 dX10_percentAlike_46 rfl ?_
        refine gq_iload hC 1 dX10_percentAlike_48 rfl ?_
        refine gq_mmax hC ⟨by decide +kernel, by decide +kernel, by decide +kernel, by decide +kernel⟩ ⟨Nat.le_of_ble_eq_true rfl, Nat.le_of_ble_eq_true rfl⟩ dX10_percentAlike_50 ?_
        refine gq_iadd hC dX10_percentAlike_53 ?_
        refine gq_istore hC [(5, .int (l5_2 + (if (v_p0 (x1 + l6_3).toNatClampNeg) < (v_p2 (x3 + l6_3).toNatClampNeg) then (v_p2 (x3 + l6_3).toNatClampNeg) else (v_p0 (x1 + l6_3).toNatClampNeg)))), (4, .int (l4_1 + (if (v_p2 (x3 + l6_3).toNatClampNeg) < (v_p0 (x1 + l6_3).toNatClampNeg) then (v_p2 (x3 + l6_3).toNatClampNeg) else (v_p0 (x1 + l6_3).toNatClampNeg)))), (8, .int (v_p2 (x3 + l6_3).toNatClampNeg)), (7, .int (v_p0 (x1 + l6_3).toNatClampNeg)), (0, .ref h_p0), (1, .int x1), (2, .ref h_p2), (3, .int x3), (6, .int l6_3)] dX10_percentAlike_54 (by decide) rfl ?_
        refine gq_iinc hC 8 (l6_3 + (1 : Int32)) [(6, .int (l6_3 + (1 : Int32))), (5, .int (l5_2 + (if (v_p0 (x1 + l6_3).toNatClampNeg) < (v_p2 (x3 + l6_3).toNatClampNeg) then (v_p2 (x3 + l6_3).toNatClampNeg) else (v_p0 (x1 + l6_3).toNatClampNeg)))), (4, .int (l4_1 + (if (v_p2 (x3 + l6_3).toNatClampNeg) < (v_p0 (x1 + l6_3).toNatClampNeg) then (v_p2 (x3 + l6_3).toNatClampNeg) else (v_p0 (x1 + l6_3).toNatClampNeg)))), (8, .int (v_p2 (x3 + l6_3).toNatClampNeg)), (7, .int (v_p0 (x1 + l6_3).toNatClampNeg)), (0, .ref h_p0), (1, .int x1), (2, .ref h_p2), (3, .int x3)] dX10_percentAlike_56 rfl rfl (by decide) rfl ?_
        refine gq_goto hC 9 dX10_percentAlike_59 (by decide) ?_
        refine gq_sub [(0, .ref h_p0), (1, .int x1), (2, .ref h_p2), (3, .int x3), (4, .int (l4_1 + (if (v_p2 (x3 + l6_3).toNatClampNeg) < (v_p0 (x1 + l6_3).toNatClampNeg) then (v_p2 (x3 + l6_3).toNatClampNeg) else (v_p0 (x1 + l6_3).toNatClampNeg)))), (5, .int (l5_2 + (if (v_p0 (x1 + l6_3).toNatClampNeg) < (v_p2 (x3 + l6_3).toNatClampNeg) then (v_p2 (x3 + l6_3).toNatClampNeg) else (v_p0 (x1 + l6_3).toNatClampNeg)))), (6, .int (l6_3 + (1 : Int32)))] [5, 6, 7, 8, 2, 1, 0] rfl ?_
        exact ih (l4_1 + (if (v_p2 (x3 + l6_3).toNatClampNeg) < (v_p0 (x1 + l6_3).toNatClampNeg) then (v_p2 (x3 + l6_3).toNatClampNeg) else (v_p0 (x1 + l6_3).toNatClampNeg))) (l5_2 + (if (v_p0 (x1 + l6_3).toNatClampNeg) < (v_p2 (x3 + l6_3).toNatClampNeg) then (v_p2 (x3 + l6_3).toNatClampNeg) else (v_p0 (x1 + l6_3).toNatClampNeg))) (l6_3 + (1 : Int32)) hF
  refine gq_sub [(0, .ref h_p0), (1, .int x1), (2, .ref h_p2), (3, .int x3), (4, .int (0 : Int32)), (5, .int (0 : Int32)), (6, .int (0 : Int32))] [3, 4, 5, 6, 2, 1, 0] rfl ?_
  obtain ⟨e_9, e_10, hw_, hF⟩ := ob2_e hF
  refine lp9  e_9 e_10 ?_ wF (0 : Int32) (0 : Int32) (0 : Int32) hw_
  refine gq_iload hC 1 dX10_percentAlike_62 rfl ?_
  refine gq_if_ne hC 71 dX10_percentAlike_64 (by decide) (fun hc_12 => ?_) (fun hc_12 => ?_)
  · have hF := (if_neg hc_12).symm.trans hF
    refine gq_bipush hC (100 : Int32) dX10_percentAlike_71 (by decide) ?_
    refine gq_iload hC 0 dX10_percentAlike_73 rfl ?_
    refine gq_imul hC dX10_percentAlike_75 ?_
    refine gq_iload hC 1 dX10_percentAlike_76 rfl ?_
    obtain ⟨hz_11, hF⟩ := gzi_e hF
    refine gq_idiv hC dX10_percentAlike_78 hz_11 ?_
    cases hF
    rw [hQ]
    exact gq_iret hC rfl dX10_percentAlike_79
  · have hF := (if_pos hc_12).symm.trans hF
    refine gq_iconst hC (0 : Int32) dX10_percentAlike_67 (by decide) ?_
    refine gq_goto hC 79 dX10_percentAlike_68 (by decide) ?_
    cases hF
    rw [hQ]
    exact gq_iret hC rfl dX10_percentAlike_79
theorem hy_X0_windowLikeness : yX0_windowLikeness.cls = RX0 ∧ yX0_windowLikeness.cls ≠ "java/lang/invoke/MethodHandle" ∧ yX0_windowLikeness.cls ≠ "java/lang/invoke/VarHandle" ∧ (parseMethodDescriptor yX0_windowLikeness.desc).map (fun d => d.parameters.length) = some 3 := by decide +kernel
set_option maxRecDepth 20000 in
set_option maxHeartbeats 4000000 in
theorem k_X0_windowLikeness (l : Launch) (D : va_G) (cI cJ cZ cO : ClassId) (z : Nat → Nat)   (h_t_ : Nat) (h_left : Nat) (h_right : Nat) (h_p1 : Nat) (h_p1_order : Nat) (h_p1_sizes : Nat) (h_p1_words : Nat) (h_changes : Nat) (h_firsts : Nat) (h_chapterAt : Nat) (h_worths : Nat) (h_cutCounts : Nat) (h_lasts : Nat) (h_starts : Nat) (h_ways : Nat) (h_p1_durations : Nat) (h_p1_pauses : Nat) (h_p1_names : Nat) (x2 : Int32) (x3 : Int32) (v_chapterCount : Int32) (v_bestWorth : Int32) (v_segmentCount : Int32) (v_least : Int32) (v_most : Int32) (v_left : Nat → Int32) (v_right : Nat → Int32) (v_p1_segmentCount : Int32) (v_p1_wordCount : Int32) (v_p1_order : Nat → Int32) (v_p1_sizes : Nat → Int32) (v_p1_words : Nat → Int32) (r_ : Int32) (w_left : Nat → Int32) (w_right : Nat → Int32) (hF : F_X0_windowLikeness x2 x3 v_segmentCount v_left v_right v_p1_order v_p1_sizes v_p1_words = some (r_, w_left, w_right)) : Mi l yX0_windowLikeness wsX0_windowLikeness (rmD 2) D (gq_ty cI cJ cZ cO) z [.ref h_t_, .ref h_p1, .int x2, .int x3] [(h_t_, .inr (0, [.int v_chapterCount, .int v_bestWorth, .ref h_changes, .ref h_firsts, .ref h_chapterAt, .ref h_worths, .ref h_cutCounts, .ref h_lasts, .ref h_starts, .ref h_ways, .ref h_left, .ref h_right, .int v_segmentCount, .int v_least, .int v_most])), (h_left, .inl (cI, 24, .inl v_left)), (h_right, .inl (cI, 24, .inl v_right)), (h_p1, .inr (9, [.int v_p1_segmentCount, .int v_p1_wordCount, .ref h_p1_order, .ref h_p1_durations, .ref h_p1_pauses, .ref h_p1_sizes, .ref h_p1_words, .ref h_p1_names])), (h_p1_order, .inl (cI, 32, .inl v_p1_order)), (h_p1_sizes, .inl (cI, 32, .inl v_p1_sizes)), (h_p1_words, .inl (cI, 256, .inl v_p1_words))] r_ [(h_t_, .inr (0, [.int v_chapterCount, .int v_bestWorth, .ref h_changes, .ref h_firsts, .ref h_chapterAt, .ref h_worths, .ref h_cutCounts, .ref h_lasts, .ref h_starts, .ref h_ways, .ref h_left, .ref h_right, .int v_segmentCount, .int v_least, .int v_most])), (h_left, .inl (cI, 24, .inl w_left)), (h_right, .inl (cI, 24, .inl w_right)), (h_p1, .inr (9, [.int v_p1_segmentCount, .int v_p1_wordCount, .ref h_p1_order, .ref h_p1_durations, .ref h_p1_pauses, .ref h_p1_sizes, .ref h_p1_words, .ref h_p1_names])), (h_p1_order, .inl (cI, 32, .inl v_p1_order)), (h_p1_sizes, .inl (cI, 32, .inl v_p1_sizes)), (h_p1_words, .inl (cI, 256, .inl v_p1_words))] 0 0 := by
  refine Mi.of (cc := cX0_windowLikeness) (maxL := 4) (by decide) rfl (Nat.le_of_ble_eq_true rfl) ⟨Nat.le_refl 0, Nat.le_refl 0⟩ ?_
  intro p e s m args below meth c A hC ha
  have hin_X0 : ∀ w ∈ wsX00, w ∈ wsX0_windowLikeness := by decide +kernel
  have hw_37 : Cond.fieldLink RX0 37 (TX0 10).1 (TX0 10).2.1 (TX0 10).2.2.1 ∈ wsX0_windowLikeness := by decide +kernel
  have hw_40 : Cond.fieldLink RX0 40 (TX0 11).1 (TX0 11).2.1 (TX0 11).2.2.1 ∈ wsX0_windowLikeness := by decide +kernel
  have hw_55 : Cond.fieldLink RX0 55 (TX0 12).1 (TX0 12).2.1 (TX0 12).2.2.1 ∈ wsX0_windowLikeness := by decide +kernel
  obtain ⟨Q, hQ⟩ : ∃ Q, Q = gq_Qi below D A args s r_ [(h_t_, .inr (0, [.int v_chapterCount, .int v_bestWorth, .ref h_changes, .ref h_firsts, .ref h_chapterAt, .ref h_worths, .ref h_cutCounts, .ref h_lasts, .ref h_starts, .ref h_ways, .ref h_left, .ref h_right, .int v_segmentCount, .int v_least, .int v_most])), (h_left, .inl (cI, 24, .inl w_left)), (h_right, .inl (cI, 24, .inl w_right)), (h_p1, .inr (9, [.int v_p1_segmentCount, .int v_p1_wordCount, .ref h_p1_order, .ref h_p1_durations, .ref h_p1_pauses, .ref h_p1_sizes, .ref h_p1_words, .ref h_p1_names])), (h_p1_order, .inl (cI, 32, .inl v_p1_order)), (h_p1_sizes, .inl (cI, 32, .inl v_p1_sizes)), (h_p1_words, .inl (cI, 256, .inl v_p1_words))] 0 0 := ⟨_, rfl⟩
  rw [← hQ]
  refine gq_loc [(0, .ref h_t_), (1, .ref h_p1), (2, .int x2), (3, .int x3)] rfl ?_
  unfold F_X0_windowLikeness at hF
  refine gq_aload_n hC 0 dX0_windowLikeness_0 rfl rfl ?_
  refine gq_get hC (kf := 10) 0 hin_X0 rfl rfl (by decide) hw_37 rfl dX0_windowLikeness_1 ?_
  refine gq_iconst hC (0 : Int32) dX0_windowLikeness_4 (by decide) ?_
  obtain ⟨v_left_1, hc_, hF⟩ := ob1_e hF
  refine gq_callWv hC [1] [(h_t_, .inr (0, [.int v_chapterCount, .int v_bestWorth, .ref h_changes, .ref h_firsts, .ref h_chapterAt, .ref h_worths, .ref h_cutCounts, .ref h_lasts, .ref h_starts, .ref h_ways, .ref h_left, .ref h_right, .int v_segmentCount, .int v_least, .int v_most])), (h_left, .inl (cI, 24, .inl v_left_1)), (h_right, .inl (cI, 24, .inl v_right)), (h_p1, .inr (9, [.int v_p1_segmentCount, .int v_p1_wordCount, .ref h_p1_order, .ref h_p1_durations, .ref h_p1_pauses, .ref h_p1_sizes, .ref h_p1_words, .ref h_p1_names])), (h_p1_order, .inl (cI, 32, .inl v_p1_order)), (h_p1_sizes, .inl (cI, 32, .inl v_p1_sizes)), (h_p1_words, .inl (cI, 256, .inl v_p1_words))] [.ref h_left, .int (0 : Int32)] [] (k_J7_fill_53178 l D cI cJ cZ cO z 24 h_left (0 : Int32) v_left v_left_1 hc_) gX0_windowLikeness_J7_fill_53178 rfl ⟨rfl, rfl⟩ hy_J7_fill_53178 ⟨Nat.le_of_ble_eq_true rfl, Nat.le_of_ble_eq_true rfl⟩ rfl rfl rfl (Nat.le_of_ble_eq_true rfl) rfl dX0_windowLikeness_5 rfl rfl ?_
  refine gq_aload_n hC 0 dX0_windowLikeness_8 rfl rfl ?_
  refine gq_get hC (kf := 11) 0 hin_X0 rfl rfl (by decide) hw_40 rfl dX0_windowLikeness_9 ?_
  refine gq_iconst hC (0 : Int32) dX0_windowLikeness_12 (by decide) ?_
  obtain ⟨v_right_2, hc_, hF⟩ := ob1_e hF
  refine gq_callWv hC [2] [(h_t_, .inr (0, [.int v_chapterCount, .int v_bestWorth, .ref h_changes, .ref h_firsts, .ref h_chapterAt, .ref h_worths, .ref h_cutCounts, .ref h_lasts, .ref h_starts, .ref h_ways, .ref h_left, .ref h_right, .int v_segmentCount, .int v_least, .int v_most])), (h_left, .inl (cI, 24, .inl v_left_1)), (h_right, .inl (cI, 24, .inl v_right_2)), (h_p1, .inr (9, [.int v_p1_segmentCount, .int v_p1_wordCount, .ref h_p1_order, .ref h_p1_durations, .ref h_p1_pauses, .ref h_p1_sizes, .ref h_p1_words, .ref h_p1_names])), (h_p1_order, .inl (cI, 32, .inl v_p1_order)), (h_p1_sizes, .inl (cI, 32, .inl v_p1_sizes)), (h_p1_words, .inl (cI, 256, .inl v_p1_words))] [.ref h_right, .int (0 : Int32)] [] (k_J7_fill_53178 l D cI cJ cZ cO z 24 h_right (0 : Int32) v_right v_right_2 hc_) gX0_windowLikeness_J7_fill_53178 rfl ⟨rfl, rfl⟩ hy_J7_fill_53178 ⟨Nat.le_of_ble_eq_true rfl, Nat.le_of_ble_eq_true rfl⟩ rfl rfl rfl (Nat.le_of_ble_eq_true rfl) rfl dX0_windowLikeness_13 rfl rfl ?_
  refine gq_aload_n hC 1 dX0_windowLikeness_16 rfl rfl ?_
  refine gq_iconst hC (0 : Int32) dX0_windowLikeness_17 (by decide) ?_
  refine gq_iload_n hC 2 dX0_windowLikeness_18 rfl rfl ?_
  refine gq_iload_n hC 3 dX0_windowLikeness_19 rfl rfl ?_
  refine gq_isub hC dX0_windowLikeness_20 ?_
  refine gq_iconst hC (1 : Int32) dX0_windowLikeness_21 (by decide) ?_
  refine gq_iadd hC dX0_windowLikeness_22 ?_
  refine gq_mmax hC ⟨by decide +kernel, by decide +kernel, by decide +kernel, by decide +kernel⟩ ⟨Nat.le_of_ble_eq_true rfl, Nat.le_of_ble_eq_true rfl⟩ dX0_windowLikeness_23 ?_
  refine gq_iload_n hC 2 dX0_windowLikeness_26 rfl rfl ?_
  refine gq_aload_n hC 0 dX0_windowLikeness_27 rfl rfl ?_
  refine gq_get hC (kf := 10) 0 hin_X0 rfl rfl (by decide) hw_37 rfl dX0_windowLikeness_28 ?_
  refine gq_iconst hC (0 : Int32) dX0_windowLikeness_31 (by decide) ?_
  obtain ⟨v_left_3, hc_, hF⟩ := ob1_e hF
  refine gq_callVv hC [3, 4, 5, 6, 1] [(h_t_, .inr (0, [.int v_chapterCount, .int v_bestWorth, .ref h_changes, .ref h_firsts, .ref h_chapterAt, .ref h_worths, .ref h_cutCounts, .ref h_lasts, .ref h_starts, .ref h_ways, .ref h_left, .ref h_right, .int v_segmentCount, .int v_least, .int v_most])), (h_left, .inl (cI, 24, .inl v_left_3)), (h_right, .inl (cI, 24, .inl v_right_2)), (h_p1, .inr (9, [.int v_p1_segmentCount, .int v_p1_wordCount, .ref h_p1_order, .ref h_p1_durations, .ref h_p1_pauses, .ref h_p1_sizes, .ref h_p1_words, .ref h_p1_names])), (h_p1_order, .inl (cI, 32, .inl v_p1_order)), (h_p1_sizes, .inl (cI, 32, .inl v_p1_sizes)), (h_p1_words, .inl (cI, 256, .inl v_p1_words))] [.int (if (0 : Int32) < ((x2 - x3) + (1 : Int32)) then ((x2 - x3) + (1 : Int32)) else (0 : Int32)), .int x2, .ref h_left, .int (0 : Int32)] [] (k_X9_tally l D cI cJ cZ cO z 24 h_p1 h_p1_order h_p1_sizes h_p1_words h_left h_p1_durations h_p1_pauses h_p1_names (if (0 : Int32) < ((x2 - x3) + (1 : Int32)) then ((x2 - x3) + (1 : Int32)) else (0 : Int32)) x2 (0 : Int32) v_p1_segmentCount v_p1_wordCount v_p1_order v_p1_sizes v_p1_words v_left_1 v_left_3 hc_) gX0_windowLikeness_X9_tally rfl ⟨rfl, rfl⟩ hy_X9_tally ⟨Nat.le_of_ble_eq_true rfl, Nat.le_of_ble_eq_true rfl⟩ rfl rfl rfl (q0 := 0) rfl rfl rfl (Nat.le_of_ble_eq_true rfl) rfl dX0_windowLikeness_32 rfl rfl ?_
  refine gq_aload_n hC 1 dX0_windowLikeness_35 rfl rfl ?_
  refine gq_iload_n hC 2 dX0_windowLikeness_36 rfl rfl ?_
  refine gq_iconst hC (1 : Int32) dX0_windowLikeness_37 (by decide) ?_
  refine gq_iadd hC dX0_windowLikeness_38 ?_
  refine gq_aload_n hC 0 dX0_windowLikeness_39 rfl rfl ?_
  refine gq_get hC (kf := 12) 0 hin_X0 rfl rfl (by decide) hw_55 rfl dX0_windowLikeness_40 ?_
  refine gq_iconst hC (1 : Int32) dX0_windowLikeness_43 (by decide) ?_
  refine gq_isub hC dX0_windowLikeness_44 ?_
  refine gq_iload_n hC 2 dX0_windowLikeness_45 rfl rfl ?_
  refine gq_iload_n hC 3 dX0_windowLikeness_46 rfl rfl ?_
  refine gq_iadd hC dX0_windowLikeness_47 ?_
  refine gq_mmin hC ⟨by decide +kernel, by decide +kernel, by decide +kernel, by decide +kernel⟩ ⟨Nat.le_of_ble_eq_true rfl, Nat.le_of_ble_eq_true rfl⟩ dX0_windowLikeness_48 ?_
  refine gq_aload_n hC 0 dX0_windowLikeness_51 rfl rfl ?_
  refine gq_get hC (kf := 11) 0 hin_X0 rfl rfl (by decide) hw_40 rfl dX0_windowLikeness_52 ?_
  refine gq_iconst hC (0 : Int32) dX0_windowLikeness_55 (by decide) ?_
  obtain ⟨v_right_4, hc_, hF⟩ := ob1_e hF
  refine gq_callVv hC [3, 4, 5, 6, 2] [(h_t_, .inr (0, [.int v_chapterCount, .int v_bestWorth, .ref h_changes, .ref h_firsts, .ref h_chapterAt, .ref h_worths, .ref h_cutCounts, .ref h_lasts, .ref h_starts, .ref h_ways, .ref h_left, .ref h_right, .int v_segmentCount, .int v_least, .int v_most])), (h_left, .inl (cI, 24, .inl v_left_3)), (h_right, .inl (cI, 24, .inl v_right_4)), (h_p1, .inr (9, [.int v_p1_segmentCount, .int v_p1_wordCount, .ref h_p1_order, .ref h_p1_durations, .ref h_p1_pauses, .ref h_p1_sizes, .ref h_p1_words, .ref h_p1_names])), (h_p1_order, .inl (cI, 32, .inl v_p1_order)), (h_p1_sizes, .inl (cI, 32, .inl v_p1_sizes)), (h_p1_words, .inl (cI, 256, .inl v_p1_words))] [.int (x2 + (1 : Int32)), .int (if (x2 + x3) < (v_segmentCount - (1 : Int32)) then (x2 + x3) else (v_segmentCount - (1 : Int32))), .ref h_right, .int (0 : Int32)] [] (k_X9_tally l D cI cJ cZ cO z 24 h_p1 h_p1_order h_p1_sizes h_p1_words h_right h_p1_durations h_p1_pauses h_p1_names (x2 + (1 : Int32)) (if (x2 + x3) < (v_segmentCount - (1 : Int32)) then (x2 + x3) else (v_segmentCount - (1 : Int32))) (0 : Int32) v_p1_segmentCount v_p1_wordCount v_p1_order v_p1_sizes v_p1_words v_right_2 v_right_4 hc_) gX0_windowLikeness_X9_tally rfl ⟨rfl, rfl⟩ hy_X9_tally ⟨Nat.le_of_ble_eq_true rfl, Nat.le_of_ble_eq_true rfl⟩ rfl rfl rfl (q0 := 0) rfl rfl rfl (Nat.le_of_ble_eq_true rfl) rfl dX0_windowLikeness_56 rfl rfl ?_
  refine gq_aload_n hC 0 dX0_windowLikeness_59 rfl rfl ?_
  refine gq_get hC (kf := 10) 0 hin_X0 rfl rfl (by decide) hw_37 rfl dX0_windowLikeness_60 ?_
  refine gq_iconst hC (0 : Int32) dX0_windowLikeness_63 (by decide) ?_
  refine gq_aload_n hC 0 dX0_windowLikeness_64 rfl rfl ?_
  refine gq_get hC (kf := 11) 0 hin_X0 rfl rfl (by decide) hw_40 rfl dX0_windowLikeness_65 ?_
  refine gq_iconst hC (0 : Int32) dX0_windowLikeness_68 (by decide) ?_
  obtain ⟨r_5, hc_, hF⟩ := ob1_e hF
  refine gq_callNi hC [1, 2] [(h_t_, .inr (0, [.int v_chapterCount, .int v_bestWorth, .ref h_changes, .ref h_firsts, .ref h_chapterAt, .ref h_worths, .ref h_cutCounts, .ref h_lasts, .ref h_starts, .ref h_ways, .ref h_left, .ref h_right, .int v_segmentCount, .int v_least, .int v_most])), (h_left, .inl (cI, 24, .inl v_left_3)), (h_right, .inl (cI, 24, .inl v_right_4)), (h_p1, .inr (9, [.int v_p1_segmentCount, .int v_p1_wordCount, .ref h_p1_order, .ref h_p1_durations, .ref h_p1_pauses, .ref h_p1_sizes, .ref h_p1_words, .ref h_p1_names])), (h_p1_order, .inl (cI, 32, .inl v_p1_order)), (h_p1_sizes, .inl (cI, 32, .inl v_p1_sizes)), (h_p1_words, .inl (cI, 256, .inl v_p1_words))] [.ref h_left, .int (0 : Int32), .ref h_right, .int (0 : Int32)] [] (k_X10_percentAlike l D cI cJ cZ cO z 24 24 h_left h_right (0 : Int32) (0 : Int32) v_left_3 v_right_4 r_5 hc_) gX0_windowLikeness_X10_percentAlike_n102 rfl ⟨rfl, rfl⟩ hy_X10_percentAlike (host := RX10) (hC.2.2.2.2.2.1.2.1) (by decide +kernel) ⟨Nat.le_of_ble_eq_true rfl, Nat.le_of_ble_eq_true rfl⟩ rfl rfl rfl (Nat.le_of_ble_eq_true rfl) rfl dX0_windowLikeness_69 rfl rfl ?_
  cases hF
  rw [hQ]
  exact gq_iret hC rfl dX0_windowLikeness_72
theorem hy_X0_durationFrom : yX0_durationFrom.cls = RX0 ∧ yX0_durationFrom.cls ≠ "java/lang/invoke/MethodHandle" ∧ yX0_durationFrom.cls ≠ "java/lang/invoke/VarHandle" ∧ (parseMethodDescriptor yX0_durationFrom.desc).map (fun d => d.parameters.length) = some 2 := by decide +kernel
set_option maxRecDepth 20000 in
set_option maxHeartbeats 4000000 in
theorem k_X0_durationFrom (l : Launch) (D : va_G) (cI cJ cZ cO : ClassId) (z : Nat → Nat)   (h_t_ : Nat) (h_starts : Nat) (h_changes : Nat) (h_firsts : Nat) (h_chapterAt : Nat) (h_worths : Nat) (h_cutCounts : Nat) (h_lasts : Nat) (h_ways : Nat) (h_left : Nat) (h_right : Nat) (x1 : Int32) (x2 : Int32) (v_chapterCount : Int32) (v_bestWorth : Int32) (v_segmentCount : Int32) (v_least : Int32) (v_most : Int32) (v_starts : Nat → Int32) (r_ : Int32) (hF : F_X0_durationFrom x1 x2 v_starts = some r_) : Mi l yX0_durationFrom wsX0_durationFrom (rmD 0) D (gq_ty cI cJ cZ cO) z [.ref h_t_, .int x1, .int x2] [(h_t_, .inr (0, [.int v_chapterCount, .int v_bestWorth, .ref h_changes, .ref h_firsts, .ref h_chapterAt, .ref h_worths, .ref h_cutCounts, .ref h_lasts, .ref h_starts, .ref h_ways, .ref h_left, .ref h_right, .int v_segmentCount, .int v_least, .int v_most])), (h_starts, .inl (cI, 33, .inl v_starts))] r_ [(h_t_, .inr (0, [.int v_chapterCount, .int v_bestWorth, .ref h_changes, .ref h_firsts, .ref h_chapterAt, .ref h_worths, .ref h_cutCounts, .ref h_lasts, .ref h_starts, .ref h_ways, .ref h_left, .ref h_right, .int v_segmentCount, .int v_least, .int v_most])), (h_starts, .inl (cI, 33, .inl v_starts))] 0 0 := by
  refine Mi.of (cc := cX0_durationFrom) (maxL := 3) (by decide) rfl (Nat.le_of_ble_eq_true rfl) ⟨Nat.le_refl 0, Nat.le_refl 0⟩ ?_
  intro p e s m args below meth c A hC ha
  have hin_X0 : ∀ w ∈ wsX00, w ∈ wsX0_durationFrom := by decide +kernel
  have hw_30 : Cond.fieldLink RX0 30 (TX0 8).1 (TX0 8).2.1 (TX0 8).2.2.1 ∈ wsX0_durationFrom := by decide +kernel
  obtain ⟨Q, hQ⟩ : ∃ Q, Q = gq_Qi below D A args s r_ [(h_t_, .inr (0, [.int v_chapterCount, .int v_bestWorth, .ref h_changes, .ref h_firsts, .ref h_chapterAt, .ref h_worths, .ref h_cutCounts, .ref h_lasts, .ref h_starts, .ref h_ways, .ref h_left, .ref h_right, .int v_segmentCount, .int v_least, .int v_most])), (h_starts, .inl (cI, 33, .inl v_starts))] 0 0 := ⟨_, rfl⟩
  rw [← hQ]
  refine gq_loc [(0, .ref h_t_), (1, .int x1), (2, .int x2)] rfl ?_
  unfold F_X0_durationFrom at hF
  refine gq_aload_n hC 0 dX0_durationFrom_0 rfl rfl ?_
  refine gq_get hC (kf := 8) 0 hin_X0 rfl rfl (by decide) hw_30 rfl dX0_durationFrom_1 ?_
  refine gq_iload_n hC 2 dX0_durationFrom_4 rfl rfl ?_
  refine gq_iconst hC (1 : Int32) dX0_durationFrom_5 (by decide) ?_
  refine gq_iadd hC dX0_durationFrom_6 ?_
  obtain ⟨hi_1, hF⟩ := gi_e hF
  refine gq_iald hC 1 0 rfl rfl hi_1 dX0_durationFrom_7 ?_
  refine gq_aload_n hC 0 dX0_durationFrom_8 rfl rfl ?_
  refine gq_get hC (kf := 8) 0 hin_X0 rfl rfl (by decide) hw_30 rfl dX0_durationFrom_9 ?_
  refine gq_iload_n hC 1 dX0_durationFrom_12 rfl rfl ?_
  obtain ⟨hi_2, hF⟩ := gi_e hF
  refine gq_iald hC 1 0 rfl rfl hi_2 dX0_durationFrom_13 ?_
  refine gq_isub hC dX0_durationFrom_14 ?_
  cases hF
  rw [hQ]
  exact gq_iret hC rfl dX0_durationFrom_15
theorem hy_X0_isLongEnough : yX0_isLongEnough.cls = RX0 ∧ yX0_isLongEnough.cls ≠ "java/lang/invoke/MethodHandle" ∧ yX0_isLongEnough.cls ≠ "java/lang/invoke/VarHandle" ∧ (parseMethodDescriptor yX0_isLongEnough.desc).map (fun d => d.parameters.length) = some 2 := by decide +kernel
set_option maxRecDepth 20000 in
set_option maxHeartbeats 4000000 in
theorem k_X0_isLongEnough (l : Launch) (D : va_G) (cI cJ cZ cO : ClassId) (z : Nat → Nat)   (h_t_ : Nat) (h_starts : Nat) (h_changes : Nat) (h_firsts : Nat) (h_chapterAt : Nat) (h_worths : Nat) (h_cutCounts : Nat) (h_lasts : Nat) (h_ways : Nat) (h_left : Nat) (h_right : Nat) (x1 : Int32) (x2 : Int32) (v_chapterCount : Int32) (v_bestWorth : Int32) (v_segmentCount : Int32) (v_least : Int32) (v_most : Int32) (v_starts : Nat → Int32) (r_ : Int32) (hF : F_X0_isLongEnough x1 x2 v_least v_most v_starts = some r_) : Mi l yX0_isLongEnough wsX0_isLongEnough (rmD 1) D (gq_ty cI cJ cZ cO) z [.ref h_t_, .int x1, .int x2] [(h_t_, .inr (0, [.int v_chapterCount, .int v_bestWorth, .ref h_changes, .ref h_firsts, .ref h_chapterAt, .ref h_worths, .ref h_cutCounts, .ref h_lasts, .ref h_starts, .ref h_ways, .ref h_left, .ref h_right, .int v_segmentCount, .int v_least, .int v_most])), (h_starts, .inl (cI, 33, .inl v_starts))] r_ [(h_t_, .inr (0, [.int v_chapterCount, .int v_bestWorth, .ref h_changes, .ref h_firsts, .ref h_chapterAt, .ref h_worths, .ref h_cutCounts, .ref h_lasts, .ref h_starts, .ref h_ways, .ref h_left, .ref h_right, .int v_segmentCount, .int v_least, .int v_most])), (h_starts, .inl (cI, 33, .inl v_starts))] 0 0 := by
  refine Mi.of (cc := cX0_isLongEnough) (maxL := 4) (by decide) rfl (Nat.le_of_ble_eq_true rfl) ⟨Nat.le_refl 0, Nat.le_refl 0⟩ ?_
  intro p e s m args below meth c A hC ha
  have hin_X0 : ∀ w ∈ wsX00, w ∈ wsX0_isLongEnough := by decide +kernel
  have hw_59 : Cond.fieldLink RX0 59 (TX0 13).1 (TX0 13).2.1 (TX0 13).2.2.1 ∈ wsX0_isLongEnough := by decide +kernel
  have hw_62 : Cond.fieldLink RX0 62 (TX0 14).1 (TX0 14).2.1 (TX0 14).2.2.1 ∈ wsX0_isLongEnough := by decide +kernel
  obtain ⟨Q, hQ⟩ : ∃ Q, Q = gq_Qi below D A args s r_ [(h_t_, .inr (0, [.int v_chapterCount, .int v_bestWorth, .ref h_changes, .ref h_firsts, .ref h_chapterAt, .ref h_worths, .ref h_cutCounts, .ref h_lasts, .ref h_starts, .ref h_ways, .ref h_left, .ref h_right, .int v_segmentCount, .int v_least, .int v_most])), (h_starts, .inl (cI, 33, .inl v_starts))] 0 0 := ⟨_, rfl⟩
  rw [← hQ]
  refine gq_loc [(0, .ref h_t_), (1, .int x1), (2, .int x2)] rfl ?_
  unfold F_X0_isLongEnough at hF
  refine gq_aload_n hC 0 dX0_isLongEnough_0 rfl rfl ?_
  refine gq_iload_n hC 1 dX0_isLongEnough_1 rfl rfl ?_
  refine gq_iload_n hC 2 dX0_isLongEnough_2 rfl rfl ?_
  obtain ⟨r_1, hc_, hF⟩ := ob1_e hF
  refine gq_callVi hC [0, 1] [(h_t_, .inr (0, [.int v_chapterCount, .int v_bestWorth, .ref h_changes, .ref h_firsts, .ref h_chapterAt, .ref h_worths, .ref h_cutCounts, .ref h_lasts, .ref h_starts, .ref h_ways, .ref h_left, .ref h_right, .int v_segmentCount, .int v_least, .int v_most])), (h_starts, .inl (cI, 33, .inl v_starts))] [.int x1, .int x2] [] (k_X0_durationFrom l D cI cJ cZ cO z h_t_ h_starts h_changes h_firsts h_chapterAt h_worths h_cutCounts h_lasts h_ways h_left h_right x1 x2 v_chapterCount v_bestWorth v_segmentCount v_least v_most v_starts r_1 hc_) gX0_isLongEnough_X0_durationFrom rfl ⟨rfl, rfl⟩ hy_X0_durationFrom ⟨Nat.le_of_ble_eq_true rfl, Nat.le_of_ble_eq_true rfl⟩ rfl rfl rfl (q0 := 0) rfl rfl rfl (Nat.le_of_ble_eq_true rfl) rfl dX0_isLongEnough_3 rfl rfl ?_
  refine gq_istore_n hC [(3, .int r_1), (0, .ref h_t_), (1, .int x1), (2, .int x2)] dX0_isLongEnough_6 rfl (by decide) rfl ?_
  refine gq_iload_n hC 0 dX0_isLongEnough_7 rfl rfl ?_
  refine gq_aload_n hC 1 dX0_isLongEnough_8 rfl rfl ?_
  refine gq_get hC (kf := 13) 0 hin_X0 rfl rfl (by decide) hw_59 rfl dX0_isLongEnough_9 ?_
  refine gq_icmp_lt hC 27 dX0_isLongEnough_12 (by decide) (fun hc_3 => ?_) (fun hc_3 => ?_)
  · have hF := (if_pos hc_3).symm.trans hF
    refine gq_iconst hC (0 : Int32) dX0_isLongEnough_27 (by decide) ?_
    cases hF
    rw [hQ]
    exact gq_iret hC rfl dX0_isLongEnough_28
  · have hF := (if_neg hc_3).symm.trans hF
    refine gq_iload_n hC 0 dX0_isLongEnough_15 rfl rfl ?_
    refine gq_aload_n hC 1 dX0_isLongEnough_16 rfl rfl ?_
    refine gq_get hC (kf := 14) 0 hin_X0 rfl rfl (by decide) hw_62 rfl dX0_isLongEnough_17 ?_
    refine gq_icmp_gt hC 27 dX0_isLongEnough_20 (by decide) (fun hc_2 => ?_) (fun hc_2 => ?_)
    · have hF := (if_pos hc_2).symm.trans hF
      refine gq_iconst hC (0 : Int32) dX0_isLongEnough_27 (by decide) ?_
      cases hF
      rw [hQ]
      exact gq_iret hC rfl dX0_isLongEnough_28
    · have hF := (if_neg hc_2).symm.trans hF
      refine gq_iconst hC (1 : Int32) dX0_isLongEnough_23 (by decide) ?_
      refine gq_goto hC 28 dX0_isLongEnough_24 (by decide) ?_
      cases hF
      rw [hQ]
      exact gq_iret hC rfl dX0_isLongEnough_28
theorem hy_X0_consider : yX0_consider.cls = RX0 ∧ yX0_consider.cls ≠ "java/lang/invoke/MethodHandle" ∧ yX0_consider.cls ≠ "java/lang/invoke/VarHandle" ∧ (parseMethodDescriptor yX0_consider.desc).map (fun d => d.parameters.length) = some 3 := by decide +kernel
set_option maxRecDepth 20000 in
set_option maxHeartbeats 4000000 in
theorem k_X0_consider (l : Launch) (D : va_G) (cI cJ cZ cO : ClassId) (z : Nat → Nat)   (h_t_ : Nat) (h_changes : Nat) (h_worths : Nat) (h_cutCounts : Nat) (h_lasts : Nat) (h_firsts : Nat) (h_chapterAt : Nat) (h_starts : Nat) (h_ways : Nat) (h_left : Nat) (h_right : Nat) (x1 : Int32) (x2 : Int32) (x3 : Int32) (v_chapterCount : Int32) (v_bestWorth : Int32) (v_segmentCount : Int32) (v_least : Int32) (v_most : Int32) (v_changes : Nat → Int32) (v_worths : Nat → Int32) (v_cutCounts : Nat → Int32) (v_lasts : Nat → Int32) (w_worths : Nat → Int32) (w_cutCounts : Nat → Int32) (w_lasts : Nat → Int32) (hF : F_X0_consider x1 x2 x3 v_segmentCount v_changes v_worths v_cutCounts v_lasts = some (w_worths, w_cutCounts, w_lasts)) : Mv l yX0_consider wsX0_consider (rmD 0) D (gq_ty cI cJ cZ cO) z [.ref h_t_, .int x1, .int x2, .int x3] [(h_t_, .inr (0, [.int v_chapterCount, .int v_bestWorth, .ref h_changes, .ref h_firsts, .ref h_chapterAt, .ref h_worths, .ref h_cutCounts, .ref h_lasts, .ref h_starts, .ref h_ways, .ref h_left, .ref h_right, .int v_segmentCount, .int v_least, .int v_most])), (h_changes, .inl (cI, 31, .inl v_changes)), (h_worths, .inl (cI, 32, .inl v_worths)), (h_cutCounts, .inl (cI, 32, .inl v_cutCounts)), (h_lasts, .inl (cI, 32, .inl v_lasts))] [(h_t_, .inr (0, [.int v_chapterCount, .int v_bestWorth, .ref h_changes, .ref h_firsts, .ref h_chapterAt, .ref h_worths, .ref h_cutCounts, .ref h_lasts, .ref h_starts, .ref h_ways, .ref h_left, .ref h_right, .int v_segmentCount, .int v_least, .int v_most])), (h_changes, .inl (cI, 31, .inl v_changes)), (h_worths, .inl (cI, 32, .inl w_worths)), (h_cutCounts, .inl (cI, 32, .inl w_cutCounts)), (h_lasts, .inl (cI, 32, .inl w_lasts))] 0 0 := by
  refine Mv.of (cc := cX0_consider) (maxL := 7) (by decide) rfl (Nat.le_of_ble_eq_true rfl) ⟨Nat.le_refl 0, Nat.le_refl 0⟩ ?_
  intro p e s m args below meth c A hC ha
  have hin_X0 : ∀ w ∈ wsX00, w ∈ wsX0_consider := by decide +kernel
  have hw_9 : Cond.fieldLink RX0 9 (TX0 2).1 (TX0 2).2.1 (TX0 2).2.2.1 ∈ wsX0_consider := by decide +kernel
  have hw_21 : Cond.fieldLink RX0 21 (TX0 5).1 (TX0 5).2.1 (TX0 5).2.2.1 ∈ wsX0_consider := by decide +kernel
  have hw_24 : Cond.fieldLink RX0 24 (TX0 6).1 (TX0 6).2.1 (TX0 6).2.2.1 ∈ wsX0_consider := by decide +kernel
  have hw_27 : Cond.fieldLink RX0 27 (TX0 7).1 (TX0 7).2.1 (TX0 7).2.2.1 ∈ wsX0_consider := by decide +kernel
  have hw_55 : Cond.fieldLink RX0 55 (TX0 12).1 (TX0 12).2.1 (TX0 12).2.2.1 ∈ wsX0_consider := by decide +kernel
  obtain ⟨Q, hQ⟩ : ∃ Q, Q = gq_Qv below D A args s [(h_t_, .inr (0, [.int v_chapterCount, .int v_bestWorth, .ref h_changes, .ref h_firsts, .ref h_chapterAt, .ref h_worths, .ref h_cutCounts, .ref h_lasts, .ref h_starts, .ref h_ways, .ref h_left, .ref h_right, .int v_segmentCount, .int v_least, .int v_most])), (h_changes, .inl (cI, 31, .inl v_changes)), (h_worths, .inl (cI, 32, .inl w_worths)), (h_cutCounts, .inl (cI, 32, .inl w_cutCounts)), (h_lasts, .inl (cI, 32, .inl w_lasts))] 0 0 := ⟨_, rfl⟩
  rw [← hQ]
  refine gq_loc [(0, .ref h_t_), (1, .int x1), (2, .int x2), (3, .int x3)] rfl ?_
  have jb108 : ∀ (l4_1 : Int32) (l5_2 : Int32) (st_3 : Int32) (v_worths_4 : Nat → Int32) (v_cutCounts_5 : Nat → Int32) (v_lasts_6 : Nat → Int32), F_X0_consider_b108 x1 x2 l4_1 l5_2 st_3 v_worths_4 v_cutCounts_5 v_lasts_6 = some (w_worths, w_cutCounts, w_lasts) → Gx p l e (rmD 0) s m args below meth c D A 7 Q 0 0 108 [(0, .ref h_t_), (1, .int x1), (2, .int x2), (4, .int l4_1), (5, .int l5_2)] [.int st_3] [(h_t_, .inr (0, [.int v_chapterCount, .int v_bestWorth, .ref h_changes, .ref h_firsts, .ref h_chapterAt, .ref h_worths, .ref h_cutCounts, .ref h_lasts, .ref h_starts, .ref h_ways, .ref h_left, .ref h_right, .int v_segmentCount, .int v_least, .int v_most])), (h_changes, .inl (cI, 31, .inl v_changes)), (h_worths, .inl (cI, 32, .inl v_worths_4)), (h_cutCounts, .inl (cI, 32, .inl v_cutCounts_5)), (h_lasts, .inl (cI, 32, .inl v_lasts_6))] := by
    intro l4_1 l5_2 st_3 v_worths_4 v_cutCounts_5 v_lasts_6 hF
    unfold F_X0_consider_b108 at hF
    refine gq_istore hC [(6, .int st_3), (0, .ref h_t_), (1, .int x1), (2, .int x2), (4, .int l4_1), (5, .int l5_2)] dX0_consider_108 (by decide) rfl ?_
    refine gq_iload hC 0 dX0_consider_110 rfl ?_
    refine gq_if_eq hC 138 dX0_consider_112 (by decide) (fun hc_10 => ?_) (fun hc_10 => ?_)
    · have hF := (if_pos hc_10).symm.trans hF
      cases hF
      rw [hQ]
      exact gq_vret hC dX0_consider_138
    · have hF := (if_neg hc_10).symm.trans hF
      refine gq_aload_n hC 1 dX0_consider_115 rfl rfl ?_
      refine gq_get hC (kf := 5) 0 hin_X0 rfl rfl (by decide) hw_21 rfl dX0_consider_116 ?_
      refine gq_iload_n hC 2 dX0_consider_119 rfl rfl ?_
      refine gq_iload hC 4 dX0_consider_120 rfl ?_
      obtain ⟨hi_7, hF⟩ := gi_e hF
      refine gq_iast hC 2 0 [(h_t_, .inr (0, [.int v_chapterCount, .int v_bestWorth, .ref h_changes, .ref h_firsts, .ref h_chapterAt, .ref h_worths, .ref h_cutCounts, .ref h_lasts, .ref h_starts, .ref h_ways, .ref h_left, .ref h_right, .int v_segmentCount, .int v_least, .int v_most])), (h_changes, .inl (cI, 31, .inl v_changes)), (h_worths, .inl (cI, 32, .inl (upd v_worths_4 x1.toNatClampNeg l4_1))), (h_cutCounts, .inl (cI, 32, .inl v_cutCounts_5)), (h_lasts, .inl (cI, 32, .inl v_lasts_6))] rfl rfl hi_7 dX0_consider_122 rfl ?_
      refine gq_aload_n hC 1 dX0_consider_123 rfl rfl ?_
      refine gq_get hC (kf := 6) 0 hin_X0 rfl rfl (by decide) hw_24 rfl dX0_consider_124 ?_
      refine gq_iload_n hC 2 dX0_consider_127 rfl rfl ?_
      refine gq_iload hC 5 dX0_consider_128 rfl ?_
      obtain ⟨hi_8, hF⟩ := gi_e hF
      refine gq_iast hC 3 0 [(h_t_, .inr (0, [.int v_chapterCount, .int v_bestWorth, .ref h_changes, .ref h_firsts, .ref h_chapterAt, .ref h_worths, .ref h_cutCounts, .ref h_lasts, .ref h_starts, .ref h_ways, .ref h_left, .ref h_right, .int v_segmentCount, .int v_least, .int v_most])), (h_changes, .inl (cI, 31, .inl v_changes)), (h_worths, .inl (cI, 32, .inl (upd v_worths_4 x1.toNatClampNeg l4_1))), (h_cutCounts, .inl (cI, 32, .inl (upd v_cutCounts_5 x1.toNatClampNeg l5_2))), (h_lasts, .inl (cI, 32, .inl v_lasts_6))] rfl rfl hi_8 dX0_consider_130 rfl ?_
      refine gq_aload_n hC 1 dX0_consider_131 rfl rfl ?_
      refine gq_get hC (kf := 7) 0 hin_X0 rfl rfl (by decide) hw_27 rfl dX0_consider_132 ?_
      refine gq_iload_n hC 2 dX0_consider_135 rfl rfl ?_
      refine gq_iload_n hC 3 dX0_consider_136 rfl rfl ?_
      obtain ⟨hi_9, hF⟩ := gi_e hF
      refine gq_iast hC 4 0 [(h_t_, .inr (0, [.int v_chapterCount, .int v_bestWorth, .ref h_changes, .ref h_firsts, .ref h_chapterAt, .ref h_worths, .ref h_cutCounts, .ref h_lasts, .ref h_starts, .ref h_ways, .ref h_left, .ref h_right, .int v_segmentCount, .int v_least, .int v_most])), (h_changes, .inl (cI, 31, .inl v_changes)), (h_worths, .inl (cI, 32, .inl (upd v_worths_4 x1.toNatClampNeg l4_1))), (h_cutCounts, .inl (cI, 32, .inl (upd v_cutCounts_5 x1.toNatClampNeg l5_2))), (h_lasts, .inl (cI, 32, .inl (upd v_lasts_6 x1.toNatClampNeg x2)))] rfl rfl hi_9 dX0_consider_137 rfl ?_
      cases hF
      rw [hQ]
      exact gq_vret hC dX0_consider_138
  have jb107 : ∀ (l4_11 : Int32) (l5_12 : Int32) (v_worths_13 : Nat → Int32) (v_cutCounts_14 : Nat → Int32) (v_lasts_15 : Nat → Int32), F_X0_consider_b107 x1 x2 l4_11 l5_12 v_worths_13 v_cutCounts_14 v_lasts_15 = some (w_worths, w_cutCounts, w_lasts) → Gx p l e (rmD 0) s m args below meth c D A 7 Q 0 0 107 [(0, .ref h_t_), (1, .int x1), (2, .int x2), (4, .int l4_11), (5, .int l5_12)] [] [(h_t_, .inr (0, [.int v_chapterCount, .int v_bestWorth, .ref h_changes, .ref h_firsts, .ref h_chapterAt, .ref h_worths, .ref h_cutCounts, .ref h_lasts, .ref h_starts, .ref h_ways, .ref h_left, .ref h_right, .int v_segmentCount, .int v_least, .int v_most])), (h_changes, .inl (cI, 31, .inl v_changes)), (h_worths, .inl (cI, 32, .inl v_worths_13)), (h_cutCounts, .inl (cI, 32, .inl v_cutCounts_14)), (h_lasts, .inl (cI, 32, .inl v_lasts_15))] := by
    intro l4_11 l5_12 v_worths_13 v_cutCounts_14 v_lasts_15 hF
    unfold F_X0_consider_b107 at hF
    refine gq_iconst hC (0 : Int32) dX0_consider_107 (by decide) ?_
    exact jb108 l4_11 l5_12 (0 : Int32) v_worths_13 v_cutCounts_14 v_lasts_15 hF
  have jb103 : ∀ (l4_16 : Int32) (l5_17 : Int32) (v_worths_18 : Nat → Int32) (v_cutCounts_19 : Nat → Int32) (v_lasts_20 : Nat → Int32), F_X0_consider_b103 x1 x2 l4_16 l5_17 v_worths_18 v_cutCounts_19 v_lasts_20 = some (w_worths, w_cutCounts, w_lasts) → Gx p l e (rmD 0) s m args below meth c D A 7 Q 0 0 103 [(0, .ref h_t_), (1, .int x1), (2, .int x2), (4, .int l4_16), (5, .int l5_17)] [] [(h_t_, .inr (0, [.int v_chapterCount, .int v_bestWorth, .ref h_changes, .ref h_firsts, .ref h_chapterAt, .ref h_worths, .ref h_cutCounts, .ref h_lasts, .ref h_starts, .ref h_ways, .ref h_left, .ref h_right, .int v_segmentCount, .int v_least, .int v_most])), (h_changes, .inl (cI, 31, .inl v_changes)), (h_worths, .inl (cI, 32, .inl v_worths_18)), (h_cutCounts, .inl (cI, 32, .inl v_cutCounts_19)), (h_lasts, .inl (cI, 32, .inl v_lasts_20))] := by
    intro l4_16 l5_17 v_worths_18 v_cutCounts_19 v_lasts_20 hF
    unfold F_X0_consider_b103 at hF
    refine gq_iconst hC (1 : Int32) dX0_consider_103 (by decide) ?_
    refine gq_goto hC 108 dX0_consider_104 (by decide) ?_
    exact jb108 l4_16 l5_17 (1 : Int32) v_worths_18 v_cutCounts_19 v_lasts_20 hF
  have jb60 : ∀ (l4_21 : Int32) (l5_22 : Int32) (v_worths_23 : Nat → Int32) (v_cutCounts_24 : Nat → Int32) (v_lasts_25 : Nat → Int32), F_X0_consider_b60 x1 x2 l4_21 l5_22 v_worths_23 v_cutCounts_24 v_lasts_25 = some (w_worths, w_cutCounts, w_lasts) → Gx p l e (rmD 0) s m args below meth c D A 7 Q 0 0 60 [(0, .ref h_t_), (1, .int x1), (2, .int x2), (4, .int l4_21), (5, .int l5_22)] [] [(h_t_, .inr (0, [.int v_chapterCount, .int v_bestWorth, .ref h_changes, .ref h_firsts, .ref h_chapterAt, .ref h_worths, .ref h_cutCounts, .ref h_lasts, .ref h_starts, .ref h_ways, .ref h_left, .ref h_right, .int v_segmentCount, .int v_least, .int v_most])), (h_changes, .inl (cI, 31, .inl v_changes)), (h_worths, .inl (cI, 32, .inl v_worths_23)), (h_cutCounts, .inl (cI, 32, .inl v_cutCounts_24)), (h_lasts, .inl (cI, 32, .inl v_lasts_25))] := by
    intro l4_21 l5_22 v_worths_23 v_cutCounts_24 v_lasts_25 hF
    unfold F_X0_consider_b60 at hF
    refine gq_aload_n hC 0 dX0_consider_60 rfl rfl ?_
    refine gq_get hC (kf := 7) 0 hin_X0 rfl rfl (by decide) hw_27 rfl dX0_consider_61 ?_
    refine gq_iload_n hC 1 dX0_consider_64 rfl rfl ?_
    obtain ⟨hi_26, hF⟩ := gi_e hF
    refine gq_iald hC 4 0 rfl rfl hi_26 dX0_consider_65 ?_
    refine gq_iconst hC (-1 : Int32) dX0_consider_66 (by decide) ?_
    refine gq_icmp_eq hC 103 dX0_consider_67 (by decide) (fun hc_33 => ?_) (fun hc_33 => ?_)
    · have hF := (if_pos hc_33).symm.trans hF
      exact jb103 l4_21 l5_22 v_worths_23 v_cutCounts_24 v_lasts_25 hF
    · have hF := (if_neg hc_33).symm.trans hF
      refine gq_iload hC 3 dX0_consider_70 rfl ?_
      refine gq_aload_n hC 0 dX0_consider_72 rfl rfl ?_
      refine gq_get hC (kf := 5) 0 hin_X0 rfl rfl (by decide) hw_21 rfl dX0_consider_73 ?_
      refine gq_iload_n hC 1 dX0_consider_76 rfl rfl ?_
      obtain ⟨hi_27, hF⟩ := gi_e hF
      refine gq_iald hC 2 0 rfl rfl hi_27 dX0_consider_77 ?_
      refine gq_icmp_gt hC 103 dX0_consider_78 (by decide) (fun hc_32 => ?_) (fun hc_32 => ?_)
      · have hF := (if_pos hc_32).symm.trans hF
        exact jb103 l4_21 l5_22 v_worths_23 v_cutCounts_24 v_lasts_25 hF
      · have hF := (if_neg hc_32).symm.trans hF
        refine gq_iload hC 3 dX0_consider_81 rfl ?_
        refine gq_aload_n hC 0 dX0_consider_83 rfl rfl ?_
        refine gq_get hC (kf := 5) 0 hin_X0 rfl rfl (by decide) hw_21 rfl dX0_consider_84 ?_
        refine gq_iload_n hC 1 dX0_consider_87 rfl rfl ?_
        obtain ⟨hi_28, hF⟩ := gi_e hF
        refine gq_iald hC 2 0 rfl rfl hi_28 dX0_consider_88 ?_
        refine gq_icmp_ne hC 107 dX0_consider_89 (by decide) (fun hc_31 => ?_) (fun hc_31 => ?_)
        · have hF := (if_neg hc_31).symm.trans hF
          exact jb107 l4_21 l5_22 v_worths_23 v_cutCounts_24 v_lasts_25 hF
        · have hF := (if_pos hc_31).symm.trans hF
          refine gq_iload hC 4 dX0_consider_92 rfl ?_
          refine gq_aload_n hC 0 dX0_consider_94 rfl rfl ?_
          refine gq_get hC (kf := 6) 0 hin_X0 rfl rfl (by decide) hw_24 rfl dX0_consider_95 ?_
          refine gq_iload_n hC 1 dX0_consider_98 rfl rfl ?_
          obtain ⟨hi_29, hF⟩ := gi_e hF
          refine gq_iald hC 3 0 rfl rfl hi_29 dX0_consider_99 ?_
          refine gq_icmp_ge hC 107 dX0_consider_100 (by decide) (fun hc_30 => ?_) (fun hc_30 => ?_)
          · have hF := (if_pos hc_30).symm.trans hF
            exact jb107 l4_21 l5_22 v_worths_23 v_cutCounts_24 v_lasts_25 hF
          · have hF := (if_neg hc_30).symm.trans hF
            exact jb103 l4_21 l5_22 v_worths_23 v_cutCounts_24 v_lasts_25 hF
  unfold F_X0_consider at hF
  refine gq_iconst hC (0 : Int32) dX0_consider_0 (by decide) ?_
  refine gq_istore hC [(4, .int (0 : Int32)), (0, .ref h_t_), (1, .int x1), (2, .int x2), (3, .int x3)] dX0_consider_1 (by decide) rfl ?_
  refine gq_iconst hC (0 : Int32) dX0_consider_3 (by decide) ?_
  refine gq_istore hC [(5, .int (0 : Int32)), (4, .int (0 : Int32)), (0, .ref h_t_), (1, .int x1), (2, .int x2), (3, .int x3)] dX0_consider_4 (by decide) rfl ?_
  refine gq_iload_n hC 4 dX0_consider_6 rfl rfl ?_
  refine gq_iconst hC (1 : Int32) dX0_consider_7 (by decide) ?_
  refine gq_iadd hC dX0_consider_8 ?_
  refine gq_aload_n hC 2 dX0_consider_9 rfl rfl ?_
  refine gq_get hC (kf := 12) 0 hin_X0 rfl rfl (by decide) hw_55 rfl dX0_consider_10 ?_
  refine gq_icmp_ge hC 60 dX0_consider_13 (by decide) (fun hc_39 => ?_) (fun hc_39 => ?_)
  · have hF := (if_pos hc_39).symm.trans hF
    refine gq_sub [(0, .ref h_t_), (1, .int x1), (2, .int x2), (4, .int (0 : Int32)), (5, .int (0 : Int32))] [2, 3, 4, 1, 0] rfl ?_
    exact jb60 (0 : Int32) (0 : Int32) v_worths v_cutCounts v_lasts hF
  · have hF := (if_neg hc_39).symm.trans hF
    refine gq_aload_n hC 2 dX0_consider_16 rfl rfl ?_
    refine gq_get hC (kf := 7) 0 hin_X0 rfl rfl (by decide) hw_27 rfl dX0_consider_17 ?_
    refine gq_iload_n hC 4 dX0_consider_20 rfl rfl ?_
    refine gq_iconst hC (1 : Int32) dX0_consider_21 (by decide) ?_
    refine gq_iadd hC dX0_consider_22 ?_
    obtain ⟨hi_34, hF⟩ := gi_e hF
    refine gq_iald hC 4 0 rfl rfl hi_34 dX0_consider_23 ?_
    refine gq_iconst hC (-1 : Int32) dX0_consider_24 (by decide) ?_
    refine gq_icmp_ne hC 29 dX0_consider_25 (by decide) (fun hc_38 => ?_) (fun hc_38 => ?_)
    · have hF := (if_neg hc_38).symm.trans hF
      refine gq_aload_n hC 2 dX0_consider_29 rfl rfl ?_
      refine gq_get hC (kf := 2) 0 hin_X0 rfl rfl (by decide) hw_9 rfl dX0_consider_30 ?_
      refine gq_iload_n hC 4 dX0_consider_33 rfl rfl ?_
      obtain ⟨hi_35, hF⟩ := gi_e hF
      refine gq_iald hC 1 0 rfl rfl hi_35 dX0_consider_34 ?_
      refine gq_iload_n hC 5 dX0_consider_35 rfl rfl ?_
      refine gq_isub hC dX0_consider_36 ?_
      refine gq_aload_n hC 2 dX0_consider_37 rfl rfl ?_
      refine gq_get hC (kf := 5) 0 hin_X0 rfl rfl (by decide) hw_21 rfl dX0_consider_38 ?_
      refine gq_iload_n hC 4 dX0_consider_41 rfl rfl ?_
      refine gq_iconst hC (1 : Int32) dX0_consider_42 (by decide) ?_
      refine gq_iadd hC dX0_consider_43 ?_
      obtain ⟨hi_36, hF⟩ := gi_e hF
      refine gq_iald hC 2 0 rfl rfl hi_36 dX0_consider_44 ?_
      refine gq_iadd hC dX0_consider_45 ?_
      refine gq_istore hC [(4, .int (((v_changes x2.toNatClampNeg) - x3) + (v_worths (x2 + (1 : Int32)).toNatClampNeg))), (5, .int (0 : Int32)), (0, .ref h_t_), (1, .int x1), (2, .int x2), (3, .int x3)] dX0_consider_46 (by decide) rfl ?_
      refine gq_aload_n hC 2 dX0_consider_48 rfl rfl ?_
      refine gq_get hC (kf := 6) 0 hin_X0 rfl rfl (by decide) hw_24 rfl dX0_consider_49 ?_
      refine gq_iload_n hC 4 dX0_consider_52 rfl rfl ?_
      refine gq_iconst hC (1 : Int32) dX0_consider_53 (by decide) ?_
      refine gq_iadd hC dX0_consider_54 ?_
      obtain ⟨hi_37, hF⟩ := gi_e hF
      refine gq_iald hC 3 0 rfl rfl hi_37 dX0_consider_55 ?_
      refine gq_iconst hC (1 : Int32) dX0_consider_56 (by decide) ?_
      refine gq_iadd hC dX0_consider_57 ?_
      refine gq_istore hC [(5, .int ((v_cutCounts (x2 + (1 : Int32)).toNatClampNeg) + (1 : Int32))), (4, .int (((v_changes x2.toNatClampNeg) - x3) + (v_worths (x2 + (1 : Int32)).toNatClampNeg))), (0, .ref h_t_), (1, .int x1), (2, .int x2), (3, .int x3)] dX0_consider_58 (by decide) rfl ?_
      refine gq_sub [(0, .ref h_t_), (1, .int x1), (2, .int x2), (4, .int (((v_changes x2.toNatClampNeg) - x3) + (v_worths (x2 + (1 : Int32)).toNatClampNeg))), (5, .int ((v_cutCounts (x2 + (1 : Int32)).toNatClampNeg) + (1 : Int32)))] [2, 3, 4, 1, 0] rfl ?_
      exact jb60 (((v_changes x2.toNatClampNeg) - x3) + (v_worths (x2 + (1 : Int32)).toNatClampNeg)) ((v_cutCounts (x2 + (1 : Int32)).toNatClampNeg) + (1 : Int32)) v_worths v_cutCounts v_lasts hF
    · have hF := (if_pos hc_38).symm.trans hF
      cases hF
      rw [hQ]
      exact gq_vret hC dX0_consider_28
theorem hy_X0_solve : yX0_solve.cls = RX0 ∧ yX0_solve.cls ≠ "java/lang/invoke/MethodHandle" ∧ yX0_solve.cls ≠ "java/lang/invoke/VarHandle" ∧ (parseMethodDescriptor yX0_solve.desc).map (fun d => d.parameters.length) = some 3 := by decide +kernel
set_option maxRecDepth 20000 in
set_option maxHeartbeats 4000000 in
theorem k_X0_solve (l : Launch) (D : va_G) (cI cJ cZ cO : ClassId) (z : Nat → Nat)   (h_t_ : Nat) (h_changes : Nat) (h_worths : Nat) (h_cutCounts : Nat) (h_lasts : Nat) (h_starts : Nat) (h_firsts : Nat) (h_chapterAt : Nat) (h_ways : Nat) (h_left : Nat) (h_right : Nat) (x1 : Int32) (x2 : Int32) (x3 : Int32) (v_chapterCount : Int32) (v_bestWorth : Int32) (v_segmentCount : Int32) (v_least : Int32) (v_most : Int32) (v_changes : Nat → Int32) (v_worths : Nat → Int32) (v_cutCounts : Nat → Int32) (v_lasts : Nat → Int32) (v_starts : Nat → Int32) (r_ : Int32) (w_worths : Nat → Int32) (w_cutCounts : Nat → Int32) (w_lasts : Nat → Int32) (hF : F_X0_solve x1 x2 x3 v_segmentCount v_least v_most v_changes v_worths v_cutCounts v_lasts v_starts = some (r_, w_worths, w_cutCounts, w_lasts)) : Mi l yX0_solve wsX0_solve (rmD 2) D (gq_ty cI cJ cZ cO) z [.ref h_t_, .int x1, .int x2, .int x3] [(h_t_, .inr (0, [.int v_chapterCount, .int v_bestWorth, .ref h_changes, .ref h_firsts, .ref h_chapterAt, .ref h_worths, .ref h_cutCounts, .ref h_lasts, .ref h_starts, .ref h_ways, .ref h_left, .ref h_right, .int v_segmentCount, .int v_least, .int v_most])), (h_changes, .inl (cI, 31, .inl v_changes)), (h_worths, .inl (cI, 32, .inl v_worths)), (h_cutCounts, .inl (cI, 32, .inl v_cutCounts)), (h_lasts, .inl (cI, 32, .inl v_lasts)), (h_starts, .inl (cI, 33, .inl v_starts))] r_ [(h_t_, .inr (0, [.int v_chapterCount, .int v_bestWorth, .ref h_changes, .ref h_firsts, .ref h_chapterAt, .ref h_worths, .ref h_cutCounts, .ref h_lasts, .ref h_starts, .ref h_ways, .ref h_left, .ref h_right, .int v_segmentCount, .int v_least, .int v_most])), (h_changes, .inl (cI, 31, .inl v_changes)), (h_worths, .inl (cI, 32, .inl w_worths)), (h_cutCounts, .inl (cI, 32, .inl w_cutCounts)), (h_lasts, .inl (cI, 32, .inl w_lasts)), (h_starts, .inl (cI, 33, .inl v_starts))] 0 0 := by
  refine Mi.of (cc := cX0_solve) (maxL := 7) (by decide) rfl (Nat.le_of_ble_eq_true rfl) ⟨Nat.le_refl 0, Nat.le_refl 0⟩ ?_
  intro p e s m args below meth c A hC ha
  have hin_X0 : ∀ w ∈ wsX00, w ∈ wsX0_solve := by decide +kernel
  have hw_27 : Cond.fieldLink RX0 27 (TX0 7).1 (TX0 7).2.1 (TX0 7).2.2.1 ∈ wsX0_solve := by decide +kernel
  have hw_55 : Cond.fieldLink RX0 55 (TX0 12).1 (TX0 12).2.1 (TX0 12).2.2.1 ∈ wsX0_solve := by decide +kernel
  obtain ⟨Q, hQ⟩ : ∃ Q, Q = gq_Qi below D A args s r_ [(h_t_, .inr (0, [.int v_chapterCount, .int v_bestWorth, .ref h_changes, .ref h_firsts, .ref h_chapterAt, .ref h_worths, .ref h_cutCounts, .ref h_lasts, .ref h_starts, .ref h_ways, .ref h_left, .ref h_right, .int v_segmentCount, .int v_least, .int v_most])), (h_changes, .inl (cI, 31, .inl v_changes)), (h_worths, .inl (cI, 32, .inl w_worths)), (h_cutCounts, .inl (cI, 32, .inl w_cutCounts)), (h_lasts, .inl (cI, 32, .inl w_lasts)), (h_starts, .inl (cI, 33, .inl v_starts))] 0 0 := ⟨_, rfl⟩
  rw [← hQ]
  refine gq_loc [(0, .ref h_t_), (1, .int x1), (2, .int x2), (3, .int x3)] rfl ?_
  unfold F_X0_solve at hF
  refine gq_aload_n hC 0 dX0_solve_0 rfl rfl ?_
  refine gq_get hC (kf := 12) 0 hin_X0 rfl rfl (by decide) hw_55 rfl dX0_solve_1 ?_
  refine gq_iconst hC (1 : Int32) dX0_solve_4 (by decide) ?_
  refine gq_isub hC dX0_solve_5 ?_
  refine gq_istore hC [(4, .int (v_segmentCount - (1 : Int32))), (0, .ref h_t_), (1, .int x1), (2, .int x2), (3, .int x3)] dX0_solve_6 (by decide) rfl ?_
  have lp8 : ∀ (e_37 : (Nat → Int32)) (e_38 : (Nat → Int32)) (e_39 : (Nat → Int32)), Gx p l e (rmD 2) s m args below meth c D A 7 Q 0 0 96 [(0, .ref h_t_)] [] [(h_t_, .inr (0, [.int v_chapterCount, .int v_bestWorth, .ref h_changes, .ref h_firsts, .ref h_chapterAt, .ref h_worths, .ref h_cutCounts, .ref h_lasts, .ref h_starts, .ref h_ways, .ref h_left, .ref h_right, .int v_segmentCount, .int v_least, .int v_most])), (h_changes, .inl (cI, 31, .inl v_changes)), (h_worths, .inl (cI, 32, .inl e_37)), (h_cutCounts, .inl (cI, 32, .inl e_38)), (h_lasts, .inl (cI, 32, .inl e_39)), (h_starts, .inl (cI, 33, .inl v_starts))] → ∀ (N : Nat) (l4_1 : Int32) (v_worths_2 : Nat → Int32) (v_cutCounts_3 : Nat → Int32) (v_lasts_4 : Nat → Int32), wh (fun k q => S_X0_solve_8 x1 x2 x3 v_segmentCount v_least v_most v_changes v_starts k q.1 q.2.1 q.2.2.1 q.2.2.2) N (l4_1, v_worths_2, v_cutCounts_3, v_lasts_4) = some (e_37, e_38, e_39) → Gx p l e (rmD 2) s m args below meth c D A 7 Q 0 0 8 [(0, .ref h_t_), (1, .int x1), (2, .int x2), (3, .int x3), (4, .int l4_1)] [] [(h_t_, .inr (0, [.int v_chapterCount, .int v_bestWorth, .ref h_changes, .ref h_firsts, .ref h_chapterAt, .ref h_worths, .ref h_cutCounts, .ref h_lasts, .ref h_starts, .ref h_ways, .ref h_left, .ref h_right, .int v_segmentCount, .int v_least, .int v_most])), (h_changes, .inl (cI, 31, .inl v_changes)), (h_worths, .inl (cI, 32, .inl v_worths_2)), (h_cutCounts, .inl (cI, 32, .inl v_cutCounts_3)), (h_lasts, .inl (cI, 32, .inl v_lasts_4)), (h_starts, .inl (cI, 33, .inl v_starts))] := by
    intro e_37 e_38 e_39 hx0 N
    induction N with
    | zero => intro l4_1 v_worths_2 v_cutCounts_3 v_lasts_4 hw; exact absurd hw (wh_0 _ _ _)
    | succ N ih =>
      intro l4_1 v_worths_2 v_cutCounts_3 v_lasts_4 hw
      have hF : S_X0_solve_8 x1 x2 x3 v_segmentCount v_least v_most v_changes v_starts (wh (fun k q => S_X0_solve_8 x1 x2 x3 v_segmentCount v_least v_most v_changes v_starts k q.1 q.2.1 q.2.2.1 q.2.2.2) N) l4_1 v_worths_2 v_cutCounts_3 v_lasts_4 = some (e_37, e_38, e_39) := hw
      unfold S_X0_solve_8 at hF
      refine gq_iload hC 4 dX0_solve_8 rfl ?_
      refine gq_if_lt hC 96 dX0_solve_10 (by decide) (fun hc_36 => ?_) (fun hc_36 => ?_)
      · have hF := (if_pos hc_36).symm.trans hF
        refine gq_sub [(0, .ref h_t_)] [0] rfl ?_
        cases hF
        exact hx0
      · have hF := (if_neg hc_36).symm.trans hF
        refine gq_aload_n hC 0 dX0_solve_13 rfl rfl ?_
        refine gq_get hC (kf := 7) 0 hin_X0 rfl rfl (by decide) hw_27 rfl dX0_solve_14 ?_
        refine gq_iload hC 4 dX0_solve_17 rfl ?_
        refine gq_iconst hC (-1 : Int32) dX0_solve_19 (by decide) ?_
        obtain ⟨hi_5, hF⟩ := gi_e hF
        refine gq_iast hC 4 0 [(h_t_, .inr (0, [.int v_chapterCount, .int v_bestWorth, .ref h_changes, .ref h_firsts, .ref h_chapterAt, .ref h_worths, .ref h_cutCounts, .ref h_lasts, .ref h_starts, .ref h_ways, .ref h_left, .ref h_right, .int v_segmentCount, .int v_least, .int v_most])), (h_changes, .inl (cI, 31, .inl v_changes)), (h_worths, .inl (cI, 32, .inl v_worths_2)), (h_cutCounts, .inl (cI, 32, .inl v_cutCounts_3)), (h_lasts, .inl (cI, 32, .inl (upd v_lasts_4 l4_1.toNatClampNeg (-1 : Int32)))), (h_starts, .inl (cI, 33, .inl v_starts))] rfl rfl hi_5 dX0_solve_20 rfl ?_
        refine gq_iload hC 4 dX0_solve_21 rfl ?_
        refine gq_istore hC [(5, .int l4_1), (0, .ref h_t_), (1, .int x1), (2, .int x2), (3, .int x3), (4, .int l4_1)] dX0_solve_23 (by decide) rfl ?_
        have lp25 : ∀ (l4_6 : Int32), ∀ (e_30 : (Nat → Int32)) (e_31 : (Nat → Int32)) (e_32 : (Nat → Int32)), Gx p l e (rmD 2) s m args below meth c D A 7 Q 0 0 90 [(0, .ref h_t_), (1, .int x1), (2, .int x2), (3, .int x3), (4, .int l4_6)] [] [(h_t_, .inr (0, [.int v_chapterCount, .int v_bestWorth, .ref h_changes, .ref h_firsts, .ref h_chapterAt, .ref h_worths, .ref h_cutCounts, .ref h_lasts, .ref h_starts, .ref h_ways, .ref h_left, .ref h_right, .int v_segmentCount, .int v_least, .int v_most])), (h_changes, .inl (cI, 31, .inl v_changes)), (h_worths, .inl (cI, 32, .inl e_30)), (h_cutCounts, .inl (cI, 32, .inl e_31)), (h_lasts, .inl (cI, 32, .inl e_32)), (h_starts, .inl (cI, 33, .inl v_starts))] → ∀ (N : Nat) (l5_7 : Int32) (v_worths_8 : Nat → Int32) (v_cutCounts_9 : Nat → Int32) (v_lasts_10 : Nat → Int32), wh (fun k q => S_X0_solve_25 x1 x2 x3 l4_6 v_segmentCount v_least v_most v_changes v_starts k q.1 q.2.1 q.2.2.1 q.2.2.2) N (l5_7, v_worths_8, v_cutCounts_9, v_lasts_10) = some (e_30, e_31, e_32) → Gx p l e (rmD 2) s m args below meth c D A 7 Q 0 0 25 [(0, .ref h_t_), (1, .int x1), (2, .int x2), (3, .int x3), (4, .int l4_6), (5, .int l5_7)] [] [(h_t_, .inr (0, [.int v_chapterCount, .int v_bestWorth, .ref h_changes, .ref h_firsts, .ref h_chapterAt, .ref h_worths, .ref h_cutCounts, .ref h_lasts, .ref h_starts, .ref h_ways, .ref h_left, .ref h_right, .int v_segmentCount, .int v_least, .int v_most])), (h_changes, .inl (cI, 31, .inl v_changes)), (h_worths, .inl (cI, 32, .inl v_worths_8)), (h_cutCounts, .inl (cI, 32, .inl v_cutCounts_9)), (h_lasts, .inl (cI, 32, .inl v_lasts_10)), (h_starts, .inl (cI, 33, .inl v_starts))] := by
          intro l4_6 e_30 e_31 e_32 hx0 N
          induction N with
          | zero => intro l5_7 v_worths_8 v_cutCounts_9 v_lasts_10 hw; exact absurd hw (wh_0 _ _ _)
          | succ N ih =>
            have jb51 : ∀ (l5_11 : Int32) (st_12 : Int32) (v_worths_13 : Nat → Int32) (v_cutCounts_14 : Nat → Int32) (v_lasts_15 : Nat → Int32), F_X0_solve_b51 (wh (fun k q => S_X0_solve_25 x1 x2 x3 l4_6 v_segmentCount v_least v_most v_changes v_starts k q.1 q.2.1 q.2.2.1 q.2.2.2) N) x1 x2 x3 l4_6 l5_11 st_12 v_segmentCount v_least v_most v_changes v_worths_13 v_cutCounts_14 v_lasts_15 v_starts = some (e_30, e_31, e_32) → Gx p l e (rmD 2) s m args below meth c D A 7 Q 0 0 51 [(0, .ref h_t_), (1, .int x1), (2, .int x2), (3, .int x3), (4, .int l4_6), (5, .int l5_11)] [.int st_12] [(h_t_, .inr (0, [.int v_chapterCount, .int v_bestWorth, .ref h_changes, .ref h_firsts, .ref h_chapterAt, .ref h_worths, .ref h_cutCounts, .ref h_lasts, .ref h_starts, .ref h_ways, .ref h_left, .ref h_right, .int v_segmentCount, .int v_least, .int v_most])), (h_changes, .inl (cI, 31, .inl v_changes)), (h_worths, .inl (cI, 32, .inl v_worths_13)), (h_cutCounts, .inl (cI, 32, .inl v_cutCounts_14)), (h_lasts, .inl (cI, 32, .inl v_lasts_15)), (h_starts, .inl (cI, 33, .inl v_starts))] := by
              intro l5_11 st_12 v_worths_13 v_cutCounts_14 v_lasts_15 hF
              unfold F_X0_solve_b51 at hF
              refine gq_istore hC [(6, .int st_12), (0, .ref h_t_), (1, .int x1), (2, .int x2), (3, .int x3), (4, .int l4_6), (5, .int l5_11)] dX0_solve_51 (by decide) rfl ?_
              refine gq_aload_n hC 1 dX0_solve_53 rfl rfl ?_
              refine gq_iload hC 5 dX0_solve_54 rfl ?_
              refine gq_iload hC 6 dX0_solve_56 rfl ?_
              obtain ⟨r_16, hc_, hF⟩ := ob1_e hF
              refine gq_callVi hC [0, 5] [(h_t_, .inr (0, [.int v_chapterCount, .int v_bestWorth, .ref h_changes, .ref h_firsts, .ref h_chapterAt, .ref h_worths, .ref h_cutCounts, .ref h_lasts, .ref h_starts, .ref h_ways, .ref h_left, .ref h_right, .int v_segmentCount, .int v_least, .int v_most])), (h_changes, .inl (cI, 31, .inl v_changes)), (h_worths, .inl (cI, 32, .inl v_worths_13)), (h_cutCounts, .inl (cI, 32, .inl v_cutCounts_14)), (h_lasts, .inl (cI, 32, .inl v_lasts_15)), (h_starts, .inl (cI, 33, .inl v_starts))] [.int l4_6, .int l5_11] [] (k_X0_isLongEnough l D cI cJ cZ cO z h_t_ h_starts h_changes h_firsts h_chapterAt h_worths h_cutCounts h_lasts h_ways h_left h_right l4_6 l5_11 v_chapterCount v_bestWorth v_segmentCount v_least v_most v_starts r_16 hc_) gX0_solve_X0_isLongEnough rfl ⟨rfl, rfl⟩ hy_X0_isLongEnough ⟨Nat.le_of_ble_eq_true rfl, Nat.le_of_ble_eq_true rfl⟩ rfl rfl rfl (q0 := 0) rfl rfl rfl (Nat.le_of_ble_eq_true rfl) rfl dX0_solve_58 rfl rfl ?_
              refine gq_if_eq hC 84 dX0_solve_61 (by decide) (fun hc_22 => ?_) (fun hc_22 => ?_)
              · have hF := (if_pos hc_22).symm.trans hF
                refine gq_iinc hC 6 (l5_11 + (1 : Int32)) [(5, .int (l5_11 + (1 : Int32))), (6, .int st_12), (0, .ref h_t_), (1, .int x1), (2, .int x2), (3, .int x3), (4, .int l4_6)] dX0_solve_84 rfl rfl (by decide) rfl ?_
                refine gq_goto hC 25 dX0_solve_87 (by decide) ?_
                refine gq_sub [(0, .ref h_t_), (1, .int x1), (2, .int x2), (3, .int x3), (4, .int l4_6), (5, .int (l5_11 + (1 : Int32)))] [2, 3, 4, 5, 6, 0] rfl ?_
                exact ih (l5_11 + (1 : Int32)) v_worths_13 v_cutCounts_14 v_lasts_15 hF
              · have hF := (if_neg hc_22).symm.trans hF
                refine gq_iload hC 0 dX0_solve_64 rfl ?_
                refine gq_if_ne hC 84 dX0_solve_66 (by decide) (fun hc_21 => ?_) (fun hc_21 => ?_)
                · have hF := (if_neg hc_21).symm.trans hF
                  refine gq_iinc hC 6 (l5_11 + (1 : Int32)) [(5, .int (l5_11 + (1 : Int32))), (6, .int st_12), (0, .ref h_t_), (1, .int x1), (2, .int x2), (3, .int x3), (4, .int l4_6)] dX0_solve_84 rfl rfl (by decide) rfl ?_
                  refine gq_goto hC 25 dX0_solve_87 (by decide) ?_
                  refine gq_sub [(0, .ref h_t_), (1, .int x1), (2, .int x2), (3, .int x3), (4, .int l4_6), (5, .int (l5_11 + (1 : Int32)))] [2, 3, 4, 5, 6, 0] rfl ?_
                  exact ih (l5_11 + (1 : Int32)) v_worths_13 v_cutCounts_14 v_lasts_15 hF
                · have hF := (if_pos hc_21).symm.trans hF
                  refine gq_iload hC 6 dX0_solve_69 rfl ?_
                  refine gq_iload_n hC 4 dX0_solve_71 rfl rfl ?_
                  refine gq_icmp_eq hC 84 dX0_solve_72 (by decide) (fun hc_20 => ?_) (fun hc_20 => ?_)
                  · have hF := (if_pos hc_20).symm.trans hF
                    refine gq_iinc hC 6 (l5_11 + (1 : Int32)) [(5, .int (l5_11 + (1 : Int32))), (6, .int st_12), (0, .ref h_t_), (1, .int x1), (2, .int x2), (3, .int x3), (4, .int l4_6)] dX0_solve_84 rfl rfl (by decide) rfl ?_
                    refine gq_goto hC 25 dX0_solve_87 (by decide) ?_
                    refine gq_sub [(0, .ref h_t_), (1, .int x1), (2, .int x2), (3, .int x3), (4, .int l4_6), (5, .int (l5_11 + (1 : Int32)))] [2, 3, 4, 5, 6, 0] rfl ?_
                    exact ih (l5_11 + (1 : Int32)) v_worths_13 v_cutCounts_14 v_lasts_15 hF
                  · have hF := (if_neg hc_20).symm.trans hF
                    refine gq_aload_n hC 1 dX0_solve_75 rfl rfl ?_
                    refine gq_iload hC 5 dX0_solve_76 rfl ?_
                    refine gq_iload hC 6 dX0_solve_78 rfl ?_
                    refine gq_iload_n hC 2 dX0_solve_80 rfl rfl ?_
                    obtain ⟨v_worths_17, v_cutCounts_18, v_lasts_19, hc_, hF⟩ := ob3_e hF
                    refine gq_callVv hC [0, 1, 2, 3, 4] [(h_t_, .inr (0, [.int v_chapterCount, .int v_bestWorth, .ref h_changes, .ref h_firsts, .ref h_chapterAt, .ref h_worths, .ref h_cutCounts, .ref h_lasts, .ref h_starts, .ref h_ways, .ref h_left, .ref h_right, .int v_segmentCount, .int v_least, .int v_most])), (h_changes, .inl (cI, 31, .inl v_changes)), (h_worths, .inl (cI, 32, .inl v_worths_17)), (h_cutCounts, .inl (cI, 32, .inl v_cutCounts_18)), (h_lasts, .inl (cI, 32, .inl v_lasts_19)), (h_starts, .inl (cI, 33, .inl v_starts))] [.int l4_6, .int l5_11, .int x1] [] (k_X0_consider l D cI cJ cZ cO z h_t_ h_changes h_worths h_cutCounts h_lasts h_firsts h_chapterAt h_starts h_ways h_left h_right l4_6 l5_11 x1 v_chapterCount v_bestWorth v_segmentCount v_least v_most v_changes v_worths_13 v_cutCounts_14 v_lasts_15 v_worths_17 v_cutCounts_18 v_lasts_19 hc_) gX0_solve_X0_consider rfl ⟨rfl, rfl⟩ hy_X0_consider ⟨Nat.le_of_ble_eq_true rfl, Nat.le_of_ble_eq_true rfl⟩ rfl rfl rfl (q0 := 0) rfl rfl rfl (Nat.le_of_ble_eq_true rfl) rfl dX0_solve_81 rfl rfl ?_
                    refine gq_iinc hC 6 (l5_11 + (1 : Int32)) [(5, .int (l5_11 + (1 : Int32))), (6, .int st_12), (0, .ref h_t_), (1, .int x1), (2, .int x2), (3, .int x3), (4, .int l4_6)] dX0_solve_84 rfl rfl (by decide) rfl ?_
                    refine gq_goto hC 25 dX0_solve_87 (by decide) ?_
                    refine gq_sub [(0, .ref h_t_), (1, .int x1), (2, .int x2), (3, .int x3), (4, .int l4_6), (5, .int (l5_11 + (1 : Int32)))] [2, 3, 4, 5, 6, 0] rfl ?_
                    exact ih (l5_11 + (1 : Int32)) v_worths_17 v_cutCounts_18 v_lasts_19 hF
            have jb50 : ∀ (l5_23 : Int32) (v_worths_24 : Nat → Int32) (v_cutCounts_25 : Nat → Int32) (v_lasts_26 : Nat → Int32), F_X0_solve_b50 (wh (fun k q => S_X0_solve_25 x1 x2 x3 l4_6 v_segmentCount v_least v_most v_changes v_starts k q.1 q.2.1 q.2.2.1 q.2.2.2) N) x1 x2 x3 l4_6 l5_23 v_segmentCount v_least v_most v_changes v_worths_24 v_cutCounts_25 v_lasts_26 v_starts = some (e_30, e_31, e_32) → Gx p l e (rmD 2) s m args below meth c D A 7 Q 0 0 50 [(0, .ref h_t_), (1, .int x1), (2, .int x2), (3, .int x3), (4, .int l4_6), (5, .int l5_23)] [] [(h_t_, .inr (0, [.int v_chapterCount, .int v_bestWorth, .ref h_changes, .ref h_firsts, .ref h_chapterAt, .ref h_worths, .ref h_cutCounts, .ref h_lasts, .ref h_starts, .ref h_ways, .ref h_left, .ref h_right, .int v_segmentCount, .int v_least, .int v_most])), (h_changes, .inl (cI, 31, .inl v_changes)), (h_worths, .inl (cI, 32, .inl v_worths_24)), (h_cutCounts, .inl (cI, 32, .inl v_cutCounts_25)), (h_lasts, .inl (cI, 32, .inl v_lasts_26)), (h_starts, .inl (cI, 33, .inl v_starts))] := by
              intro l5_23 v_worths_24 v_cutCounts_25 v_lasts_26 hF
              unfold F_X0_solve_b50 at hF
              refine gq_iconst hC (0 : Int32) dX0_solve_50 (by decide) ?_
              exact jb51 l5_23 (0 : Int32) v_worths_24 v_cutCounts_25 v_lasts_26 hF
            intro l5_7 v_worths_8 v_cutCounts_9 v_lasts_10 hw
            have hF : S_X0_solve_25 x1 x2 x3 l4_6 v_segmentCount v_least v_most v_changes v_starts (wh (fun k q => S_X0_solve_25 x1 x2 x3 l4_6 v_segmentCount v_least v_most v_changes v_starts k q.1 q.2.1 q.2.2.1 q.2.2.2) N) l5_7 v_worths_8 v_cutCounts_9 v_lasts_10 = some (e_30, e_31, e_32) := hw
            unfold S_X0_solve_25 at hF
            refine gq_iload hC 5 dX0_solve_25 rfl ?_
            refine gq_aload_n hC 0 dX0_solve_27 rfl rfl ?_
            refine gq_get hC (kf := 12) 0 hin_X0 rfl rfl (by decide) hw_55 rfl dX0_solve_28 ?_
            refine gq_icmp_ge hC 90 dX0_solve_31 (by decide) (fun hc_29 => ?_) (fun hc_29 => ?_)
            · have hF := (if_pos hc_29).symm.trans hF
              refine gq_sub [(0, .ref h_t_), (1, .int x1), (2, .int x2), (3, .int x3), (4, .int l4_6)] [0, 1, 2, 3, 4] rfl ?_
              cases hF
              exact hx0
            · have hF := (if_neg hc_29).symm.trans hF
              refine gq_iload hC 4 dX0_solve_34 rfl ?_
              refine gq_iload_n hC 2 dX0_solve_36 rfl rfl ?_
              refine gq_icmp_gt hC 50 dX0_solve_37 (by decide) (fun hc_28 => ?_) (fun hc_28 => ?_)
              · have hF := (if_pos hc_28).symm.trans hF
                exact jb50 l5_7 v_worths_8 v_cutCounts_9 v_lasts_10 hF
              · have hF := (if_neg hc_28).symm.trans hF
                refine gq_iload_n hC 2 dX0_solve_40 rfl rfl ?_
                refine gq_iload hC 5 dX0_solve_41 rfl ?_
                refine gq_icmp_ge hC 50 dX0_solve_43 (by decide) (fun hc_27 => ?_) (fun hc_27 => ?_)
                · have hF := (if_pos hc_27).symm.trans hF
                  exact jb50 l5_7 v_worths_8 v_cutCounts_9 v_lasts_10 hF
                · have hF := (if_neg hc_27).symm.trans hF
                  refine gq_iconst hC (1 : Int32) dX0_solve_46 (by decide) ?_
                  refine gq_goto hC 51 dX0_solve_47 (by decide) ?_
                  exact jb51 l5_7 (1 : Int32) v_worths_8 v_cutCounts_9 v_lasts_10 hF
        refine gq_sub [(0, .ref h_t_), (1, .int x1), (2, .int x2), (3, .int x3), (4, .int l4_1), (5, .int l4_1)] [1, 2, 3, 4, 5, 0] rfl ?_
        obtain ⟨e_33, e_34, e_35, hw_, hF⟩ := ob3_e hF
        refine lp25 l4_1 e_33 e_34 e_35 ?_ wF l4_1 v_worths_2 v_cutCounts_3 (upd v_lasts_4 l4_1.toNatClampNeg (-1 : Int32)) hw_
        refine gq_iinc hC 4 (l4_1 + (-1 : Int32)) [(4, .int (l4_1 + (-1 : Int32))), (0, .ref h_t_), (1, .int x1), (2, .int x2), (3, .int x3)] dX0_solve_90 rfl rfl (by decide) rfl ?_
        refine gq_goto hC 8 dX0_solve_93 (by decide) ?_
        refine gq_sub [(0, .ref h_t_), (1, .int x1), (2, .int x2), (3, .int x3), (4, .int (l4_1 + (-1 : Int32)))] [1, 2, 3, 4, 0] rfl ?_
        exact ih (l4_1 + (-1 : Int32)) e_33 e_34 e_35 hF
  refine gq_sub [(0, .ref h_t_), (1, .int x1), (2, .int x2), (3, .int x3), (4, .int (v_segmentCount - (1 : Int32)))] [1, 2, 3, 4, 0] rfl ?_
  obtain ⟨e_40, e_41, e_42, hw_, hF⟩ := ob3_e hF
  refine lp8  e_40 e_41 e_42 ?_ wF (v_segmentCount - (1 : Int32)) v_worths v_cutCounts v_lasts hw_
  refine gq_aload_n hC 0 dX0_solve_96 rfl rfl ?_
  refine gq_get hC (kf := 12) 0 hin_X0 rfl rfl (by decide) hw_55 rfl dX0_solve_97 ?_
  refine gq_if_le hC 117 dX0_solve_100 (by decide) (fun hc_45 => ?_) (fun hc_45 => ?_)
  · have hF := (if_pos hc_45).symm.trans hF
    refine gq_iconst hC (0 : Int32) dX0_solve_117 (by decide) ?_
    cases hF
    rw [hQ]
    exact gq_iret hC rfl dX0_solve_118
  · have hF := (if_neg hc_45).symm.trans hF
    refine gq_aload_n hC 0 dX0_solve_103 rfl rfl ?_
    refine gq_get hC (kf := 7) 0 hin_X0 rfl rfl (by decide) hw_27 rfl dX0_solve_104 ?_
    refine gq_iconst hC (0 : Int32) dX0_solve_107 (by decide) ?_
    obtain ⟨hi_43, hF⟩ := gi_e hF
    refine gq_iald hC 4 0 rfl rfl hi_43 dX0_solve_108 ?_
    refine gq_iconst hC (-1 : Int32) dX0_solve_109 (by decide) ?_
    refine gq_icmp_eq hC 117 dX0_solve_110 (by decide) (fun hc_44 => ?_) (fun hc_44 => ?_)
    · have hF := (if_pos hc_44).symm.trans hF
      refine gq_iconst hC (0 : Int32) dX0_solve_117 (by decide) ?_
      cases hF
      rw [hQ]
      exact gq_iret hC rfl dX0_solve_118
    · have hF := (if_neg hc_44).symm.trans hF
      refine gq_iconst hC (1 : Int32) dX0_solve_113 (by decide) ?_
      refine gq_goto hC 118 dX0_solve_114 (by decide) ?_
      cases hF
      rw [hQ]
      exact gq_iret hC rfl dX0_solve_118
theorem hy_X0_takeBest : yX0_takeBest.cls = RX0 ∧ yX0_takeBest.cls ≠ "java/lang/invoke/MethodHandle" ∧ yX0_takeBest.cls ≠ "java/lang/invoke/VarHandle" ∧ (parseMethodDescriptor yX0_takeBest.desc).map (fun d => d.parameters.length) = some 0 := by decide +kernel
set_option maxRecDepth 20000 in
set_option maxHeartbeats 4000000 in
theorem k_X0_takeBest (l : Launch) (D : va_G) (cI cJ cZ cO : ClassId) (z : Nat → Nat)   (h_t_ : Nat) (h_firsts : Nat) (h_chapterAt : Nat) (h_worths : Nat) (h_lasts : Nat) (h_changes : Nat) (h_cutCounts : Nat) (h_starts : Nat) (h_ways : Nat) (h_left : Nat) (h_right : Nat)  (v_chapterCount : Int32) (v_bestWorth : Int32) (v_segmentCount : Int32) (v_least : Int32) (v_most : Int32) (v_firsts : Nat → Int32) (v_chapterAt : Nat → Int32) (v_worths : Nat → Int32) (v_lasts : Nat → Int32) (w_chapterCount : Int32) (w_bestWorth : Int32) (w_firsts : Nat → Int32) (w_chapterAt : Nat → Int32) (hF : F_X0_takeBest v_chapterCount v_bestWorth v_segmentCount v_firsts v_chapterAt v_worths v_lasts = some (w_chapterCount, w_bestWorth, w_firsts, w_chapterAt)) : Mv l yX0_takeBest wsX0_takeBest (rmD 0) D (gq_ty cI cJ cZ cO) z [.ref h_t_] [(h_t_, .inr (0, [.int v_chapterCount, .int v_bestWorth, .ref h_changes, .ref h_firsts, .ref h_chapterAt, .ref h_worths, .ref h_cutCounts, .ref h_lasts, .ref h_starts, .ref h_ways, .ref h_left, .ref h_right, .int v_segmentCount, .int v_least, .int v_most])), (h_firsts, .inl (cI, 32, .inl v_firsts)), (h_chapterAt, .inl (cI, 32, .inl v_chapterAt)), (h_worths, .inl (cI, 32, .inl v_worths)), (h_lasts, .inl (cI, 32, .inl v_lasts))] [(h_t_, .inr (0, [.int w_chapterCount, .int w_bestWorth, .ref h_changes, .ref h_firsts, .ref h_chapterAt, .ref h_worths, .ref h_cutCounts, .ref h_lasts, .ref h_starts, .ref h_ways, .ref h_left, .ref h_right, .int v_segmentCount, .int v_least, .int v_most])), (h_firsts, .inl (cI, 32, .inl w_firsts)), (h_chapterAt, .inl (cI, 32, .inl w_chapterAt)), (h_worths, .inl (cI, 32, .inl v_worths)), (h_lasts, .inl (cI, 32, .inl v_lasts))] 0 0 := by
  refine Mv.of (cc := cX0_takeBest) (maxL := 3) (by decide) rfl (Nat.le_of_ble_eq_true rfl) ⟨Nat.le_refl 0, Nat.le_refl 0⟩ ?_
  intro p e s m args below meth c A hC ha
  have hin_X0 : ∀ w ∈ wsX00, w ∈ wsX0_takeBest := by decide +kernel
  have hw_15 : Cond.fieldLink RX0 15 (TX0 3).1 (TX0 3).2.1 (TX0 3).2.2.1 ∈ wsX0_takeBest := by decide +kernel
  have hw_18 : Cond.fieldLink RX0 18 (TX0 4).1 (TX0 4).2.1 (TX0 4).2.2.1 ∈ wsX0_takeBest := by decide +kernel
  have hw_21 : Cond.fieldLink RX0 21 (TX0 5).1 (TX0 5).2.1 (TX0 5).2.2.1 ∈ wsX0_takeBest := by decide +kernel
  have hw_27 : Cond.fieldLink RX0 27 (TX0 7).1 (TX0 7).2.1 (TX0 7).2.2.1 ∈ wsX0_takeBest := by decide +kernel
  have hw_55 : Cond.fieldLink RX0 55 (TX0 12).1 (TX0 12).2.1 (TX0 12).2.2.1 ∈ wsX0_takeBest := by decide +kernel
  have hw_73 : Cond.fieldLink RX0 73 (TX0 0).1 (TX0 0).2.1 (TX0 0).2.2.1 ∈ wsX0_takeBest := by decide +kernel
  have hw_114 : Cond.fieldLink RX0 114 (TX0 1).1 (TX0 1).2.1 (TX0 1).2.2.1 ∈ wsX0_takeBest := by decide +kernel
  obtain ⟨Q, hQ⟩ : ∃ Q, Q = gq_Qv below D A args s [(h_t_, .inr (0, [.int w_chapterCount, .int w_bestWorth, .ref h_changes, .ref h_firsts, .ref h_chapterAt, .ref h_worths, .ref h_cutCounts, .ref h_lasts, .ref h_starts, .ref h_ways, .ref h_left, .ref h_right, .int v_segmentCount, .int v_least, .int v_most])), (h_firsts, .inl (cI, 32, .inl w_firsts)), (h_chapterAt, .inl (cI, 32, .inl w_chapterAt)), (h_worths, .inl (cI, 32, .inl v_worths)), (h_lasts, .inl (cI, 32, .inl v_lasts))] 0 0 := ⟨_, rfl⟩
  rw [← hQ]
  refine gq_loc [(0, .ref h_t_)] rfl ?_
  unfold F_X0_takeBest at hF
  refine gq_aload_n hC 0 dX0_takeBest_0 rfl rfl ?_
  refine gq_aload_n hC 0 dX0_takeBest_1 rfl rfl ?_
  refine gq_get hC (kf := 5) 0 hin_X0 rfl rfl (by decide) hw_21 rfl dX0_takeBest_2 ?_
  refine gq_iconst hC (0 : Int32) dX0_takeBest_5 (by decide) ?_
  obtain ⟨hi_1, hF⟩ := gi_e hF
  refine gq_iald hC 3 0 rfl rfl hi_1 dX0_takeBest_6 ?_
  refine gq_put1 hC (kf := 1) 0 [(h_t_, .inr (0, [.int v_chapterCount, .int (v_worths (0 : Int32).toNatClampNeg), .ref h_changes, .ref h_firsts, .ref h_chapterAt, .ref h_worths, .ref h_cutCounts, .ref h_lasts, .ref h_starts, .ref h_ways, .ref h_left, .ref h_right, .int v_segmentCount, .int v_least, .int v_most])), (h_firsts, .inl (cI, 32, .inl v_firsts)), (h_chapterAt, .inl (cI, 32, .inl v_chapterAt)), (h_worths, .inl (cI, 32, .inl v_worths)), (h_lasts, .inl (cI, 32, .inl v_lasts))] tyX0 tyX0_ok nmX0 hin_X0 rfl rfl (by decide) hw_114 rfl rfl rfl (Nat.le_of_ble_eq_true rfl) dX0_takeBest_7 rfl ?_
  refine gq_iconst hC (0 : Int32) dX0_takeBest_10 (by decide) ?_
  refine gq_istore_n hC [(1, .int (0 : Int32)), (0, .ref h_t_)] dX0_takeBest_11 rfl (by decide) rfl ?_
  refine gq_iconst hC (0 : Int32) dX0_takeBest_12 (by decide) ?_
  refine gq_istore_n hC [(2, .int (0 : Int32)), (1, .int (0 : Int32)), (0, .ref h_t_)] dX0_takeBest_13 rfl (by decide) rfl ?_
  have lp14 : ∀ (v_bestWorth_5 : Int32), ∀ (e_18 : (Int32)) (e_19 : (Nat → Int32)) (e_20 : (Nat → Int32)), Gx p l e (rmD 0) s m args below meth c D A 3 Q 0 0 74 [] [] [(h_t_, .inr (0, [.int e_18, .int v_bestWorth_5, .ref h_changes, .ref h_firsts, .ref h_chapterAt, .ref h_worths, .ref h_cutCounts, .ref h_lasts, .ref h_starts, .ref h_ways, .ref h_left, .ref h_right, .int v_segmentCount, .int v_least, .int v_most])), (h_firsts, .inl (cI, 32, .inl e_19)), (h_chapterAt, .inl (cI, 32, .inl e_20)), (h_worths, .inl (cI, 32, .inl v_worths)), (h_lasts, .inl (cI, 32, .inl v_lasts))] → ∀ (N : Nat) (l1_2 : Int32) (l2_3 : Int32) (v_chapterCount_4 : Int32) (v_firsts_6 : Nat → Int32) (v_chapterAt_7 : Nat → Int32), wh (fun k q => S_X0_takeBest_14 v_bestWorth_5 v_segmentCount v_lasts k q.1 q.2.1 q.2.2.1 q.2.2.2.1 q.2.2.2.2) N (l1_2, l2_3, v_chapterCount_4, v_firsts_6, v_chapterAt_7) = some (e_18, e_19, e_20) → Gx p l e (rmD 0) s m args below meth c D A 3 Q 0 0 14 [(0, .ref h_t_), (1, .int l1_2), (2, .int l2_3)] [] [(h_t_, .inr (0, [.int v_chapterCount_4, .int v_bestWorth_5, .ref h_changes, .ref h_firsts, .ref h_chapterAt, .ref h_worths, .ref h_cutCounts, .ref h_lasts, .ref h_starts, .ref h_ways, .ref h_left, .ref h_right, .int v_segmentCount, .int v_least, .int v_most])), (h_firsts, .inl (cI, 32, .inl v_firsts_6)), (h_chapterAt, .inl (cI, 32, .inl v_chapterAt_7)), (h_worths, .inl (cI, 32, .inl v_worths)), (h_lasts, .inl (cI, 32, .inl v_lasts))] := by
    intro v_bestWorth_5 e_18 e_19 e_20 hx0 N
    induction N with
    | zero => intro l1_2 l2_3 v_chapterCount_4 v_firsts_6 v_chapterAt_7 hw; exact absurd hw (wh_0 _ _ _)
    | succ N ih =>
      have jb56 : ∀ (l1_8 : Int32) (l2_9 : Int32) (v_chapterCount_10 : Int32) (v_firsts_11 : Nat → Int32) (v_chapterAt_12 : Nat → Int32), F_X0_takeBest_b56 (wh (fun k q => S_X0_takeBest_14 v_bestWorth_5 v_segmentCount v_lasts k q.1 q.2.1 q.2.2.1 q.2.2.2.1 q.2.2.2.2) N) l1_8 l2_9 v_chapterCount_10 v_bestWorth_5 v_segmentCount v_firsts_11 v_chapterAt_12 v_lasts = some (e_18, e_19, e_20) → Gx p l e (rmD 0) s m args below meth c D A 3 Q 0 0 56 [(0, .ref h_t_), (1, .int l1_8), (2, .int l2_9)] [] [(h_t_, .inr (0, [.int v_chapterCount_10, .int v_bestWorth_5, .ref h_changes, .ref h_firsts, .ref h_chapterAt, .ref h_worths, .ref h_cutCounts, .ref h_lasts, .ref h_starts, .ref h_ways, .ref h_left, .ref h_right, .int v_segmentCount, .int v_least, .int v_most])), (h_firsts, .inl (cI, 32, .inl v_firsts_11)), (h_chapterAt, .inl (cI, 32, .inl v_chapterAt_12)), (h_worths, .inl (cI, 32, .inl v_worths)), (h_lasts, .inl (cI, 32, .inl v_lasts))] := by
        intro l1_8 l2_9 v_chapterCount_10 v_firsts_11 v_chapterAt_12 hF
        unfold F_X0_takeBest_b56 at hF
        refine gq_aload_n hC 0 dX0_takeBest_56 rfl rfl ?_
        refine gq_get hC (kf := 4) 0 hin_X0 rfl rfl (by decide) hw_18 rfl dX0_takeBest_57 ?_
        refine gq_iload_n hC 2 dX0_takeBest_60 rfl rfl ?_
        refine gq_aload_n hC 0 dX0_takeBest_61 rfl rfl ?_
        refine gq_get hC (kf := 0) 0 hin_X0 rfl rfl (by decide) hw_73 rfl dX0_takeBest_62 ?_
        refine gq_iconst hC (1 : Int32) dX0_takeBest_65 (by decide) ?_
        refine gq_isub hC dX0_takeBest_66 ?_
        obtain ⟨hi_13, hF⟩ := gi_e hF
        refine gq_iast hC 2 0 [(h_t_, .inr (0, [.int v_chapterCount_10, .int v_bestWorth_5, .ref h_changes, .ref h_firsts, .ref h_chapterAt, .ref h_worths, .ref h_cutCounts, .ref h_lasts, .ref h_starts, .ref h_ways, .ref h_left, .ref h_right, .int v_segmentCount, .int v_least, .int v_most])), (h_firsts, .inl (cI, 32, .inl v_firsts_11)), (h_chapterAt, .inl (cI, 32, .inl (upd v_chapterAt_12 l2_9.toNatClampNeg (v_chapterCount_10 - (1 : Int32))))), (h_worths, .inl (cI, 32, .inl v_worths)), (h_lasts, .inl (cI, 32, .inl v_lasts))] rfl rfl hi_13 dX0_takeBest_67 rfl ?_
        refine gq_iinc hC 2 (l2_9 + (1 : Int32)) [(2, .int (l2_9 + (1 : Int32))), (0, .ref h_t_), (1, .int l1_8)] dX0_takeBest_68 rfl rfl (by decide) rfl ?_
        refine gq_goto hC 14 dX0_takeBest_71 (by decide) ?_
        refine gq_sub [(0, .ref h_t_), (1, .int l1_8), (2, .int (l2_9 + (1 : Int32)))] [1, 2, 0] rfl ?_
        exact ih l1_8 (l2_9 + (1 : Int32)) v_chapterCount_10 v_firsts_11 (upd v_chapterAt_12 l2_9.toNatClampNeg (v_chapterCount_10 - (1 : Int32))) hF
      intro l1_2 l2_3 v_chapterCount_4 v_firsts_6 v_chapterAt_7 hw
      have hF : S_X0_takeBest_14 v_bestWorth_5 v_segmentCount v_lasts (wh (fun k q => S_X0_takeBest_14 v_bestWorth_5 v_segmentCount v_lasts k q.1 q.2.1 q.2.2.1 q.2.2.2.1 q.2.2.2.2) N) l1_2 l2_3 v_chapterCount_4 v_firsts_6 v_chapterAt_7 = some (e_18, e_19, e_20) := hw
      unfold S_X0_takeBest_14 at hF
      refine gq_iload_n hC 2 dX0_takeBest_14 rfl rfl ?_
      refine gq_aload_n hC 0 dX0_takeBest_15 rfl rfl ?_
      refine gq_get hC (kf := 12) 0 hin_X0 rfl rfl (by decide) hw_55 rfl dX0_takeBest_16 ?_
      refine gq_icmp_ge hC 74 dX0_takeBest_19 (by decide) (fun hc_17 => ?_) (fun hc_17 => ?_)
      · have hF := (if_pos hc_17).symm.trans hF
        refine gq_sub [] [] rfl ?_
        cases hF
        exact hx0
      · have hF := (if_neg hc_17).symm.trans hF
        refine gq_iload_n hC 2 dX0_takeBest_22 rfl rfl ?_
        refine gq_iload_n hC 1 dX0_takeBest_23 rfl rfl ?_
        refine gq_icmp_ne hC 56 dX0_takeBest_24 (by decide) (fun hc_16 => ?_) (fun hc_16 => ?_)
        · have hF := (if_neg hc_16).symm.trans hF
          exact jb56 l1_2 l2_3 v_chapterCount_4 v_firsts_6 v_chapterAt_7 hF
        · have hF := (if_pos hc_16).symm.trans hF
          refine gq_aload_n hC 0 dX0_takeBest_27 rfl rfl ?_
          refine gq_get hC (kf := 3) 0 hin_X0 rfl rfl (by decide) hw_15 rfl dX0_takeBest_28 ?_
          refine gq_aload_n hC 0 dX0_takeBest_31 rfl rfl ?_
          refine gq_get hC (kf := 0) 0 hin_X0 rfl rfl (by decide) hw_73 rfl dX0_takeBest_32 ?_
          refine gq_iload_n hC 2 dX0_takeBest_35 rfl rfl ?_
          obtain ⟨hi_14, hF⟩ := gi_e hF
          refine gq_iast hC 1 0 [(h_t_, .inr (0, [.int v_chapterCount_4, .int v_bestWorth_5, .ref h_changes, .ref h_firsts, .ref h_chapterAt, .ref h_worths, .ref h_cutCounts, .ref h_lasts, .ref h_starts, .ref h_ways, .ref h_left, .ref h_right, .int v_segmentCount, .int v_least, .int v_most])), (h_firsts, .inl (cI, 32, .inl (upd v_firsts_6 v_chapterCount_4.toNatClampNeg l2_3))), (h_chapterAt, .inl (cI, 32, .inl v_chapterAt_7)), (h_worths, .inl (cI, 32, .inl v_worths)), (h_lasts, .inl (cI, 32, .inl v_lasts))] rfl rfl hi_14 dX0_takeBest_36 rfl ?_
          refine gq_aload_n hC 0 dX0_takeBest_37 rfl rfl ?_
          refine gq_dup hC dX0_takeBest_38 rfl ?_
          refine gq_get hC (kf := 0) 0 hin_X0 rfl rfl (by decide) hw_73 rfl dX0_takeBest_39 ?_
          refine gq_iconst hC (1 : Int32) dX0_takeBest_42 (by decide) ?_
          refine gq_iadd hC dX0_takeBest_43 ?_
          refine gq_put1 hC (kf := 0) 0 [(h_t_, .inr (0, [.int (v_chapterCount_4 + (1 : Int32)), .int v_bestWorth_5, .ref h_changes, .ref h_firsts, .ref h_chapterAt, .ref h_worths, .ref h_cutCounts, .ref h_lasts, .ref h_starts, .ref h_ways, .ref h_left, .ref h_right, .int v_segmentCount, .int v_least, .int v_most])), (h_firsts, .inl (cI, 32, .inl (upd v_firsts_6 v_chapterCount_4.toNatClampNeg l2_3))), (h_chapterAt, .inl (cI, 32, .inl v_chapterAt_7)), (h_worths, .inl (cI, 32, .inl v_worths)), (h_lasts, .inl (cI, 32, .inl v_lasts))] tyX0 tyX0_ok nmX0 hin_X0 rfl rfl (by decide) hw_73 rfl rfl rfl (Nat.le_of_ble_eq_true rfl) dX0_takeBest_44 rfl ?_
          refine gq_aload_n hC 0 dX0_takeBest_47 rfl rfl ?_
          refine gq_get hC (kf := 7) 0 hin_X0 rfl rfl (by decide) hw_27 rfl dX0_takeBest_48 ?_
          refine gq_iload_n hC 2 dX0_takeBest_51 rfl rfl ?_
          obtain ⟨hi_15, hF⟩ := gi_e hF
          refine gq_iald hC 4 0 rfl rfl hi_15 dX0_takeBest_52 ?_
          refine gq_iconst hC (1 : Int32) dX0_takeBest_53 (by decide) ?_
          refine gq_iadd hC dX0_takeBest_54 ?_
          refine gq_istore_n hC [(1, .int ((v_lasts l2_3.toNatClampNeg) + (1 : Int32))), (0, .ref h_t_), (2, .int l2_3)] dX0_takeBest_55 rfl (by decide) rfl ?_
          refine gq_sub [(0, .ref h_t_), (1, .int ((v_lasts l2_3.toNatClampNeg) + (1 : Int32))), (2, .int l2_3)] [1, 0, 2] rfl ?_
          exact jb56 ((v_lasts l2_3.toNatClampNeg) + (1 : Int32)) l2_3 (v_chapterCount_4 + (1 : Int32)) (upd v_firsts_6 v_chapterCount_4.toNatClampNeg l2_3) v_chapterAt_7 hF
  refine gq_sub [(0, .ref h_t_), (1, .int (0 : Int32)), (2, .int (0 : Int32))] [2, 1, 0] rfl ?_
  obtain ⟨e_21, e_22, e_23, hw_, hF⟩ := ob3_e hF
  refine lp14 (v_worths (0 : Int32).toNatClampNeg) e_21 e_22 e_23 ?_ wF (0 : Int32) (0 : Int32) v_chapterCount v_firsts v_chapterAt hw_
  cases hF
  rw [hQ]
  exact gq_vret hC dX0_takeBest_74
theorem hy_X0_update : yX0_update.cls = RX0 ∧ yX0_update.cls ≠ "java/lang/invoke/MethodHandle" ∧ yX0_update.cls ≠ "java/lang/invoke/VarHandle" ∧ (parseMethodDescriptor yX0_update.desc).map (fun d => d.parameters.length) = some 1 := by decide +kernel
set_option maxRecDepth 20000 in
set_option maxHeartbeats 4000000 in
theorem k_X0_update (l : Launch) (D : va_G) (cI cJ cZ cO : ClassId) (z : Nat → Nat)   (h_t_ : Nat) (h_changes : Nat) (h_firsts : Nat) (h_chapterAt : Nat) (h_worths : Nat) (h_cutCounts : Nat) (h_lasts : Nat) (h_starts : Nat) (h_left : Nat) (h_right : Nat) (h_p1 : Nat) (h_p1_transcript : Nat) (h_p1_transcript_order : Nat) (h_p1_transcript_durations : Nat) (h_p1_transcript_sizes : Nat) (h_p1_transcript_words : Nat) (h_p1_settings : Nat) (h_ways : Nat) (h_p1_slots : Nat) (h_p1_kept : Nat) (h_p1_transcript_pauses : Nat) (h_p1_transcript_names : Nat)  (v_chapterCount : Int32) (v_bestWorth : Int32) (v_segmentCount : Int32) (v_least : Int32) (v_most : Int32) (v_changes : Nat → Int32) (v_firsts : Nat → Int32) (v_chapterAt : Nat → Int32) (v_worths : Nat → Int32) (v_cutCounts : Nat → Int32) (v_lasts : Nat → Int32) (v_starts : Nat → Int32) (v_left : Nat → Int32) (v_right : Nat → Int32) (v_p1_transcript_segmentCount : Int32) (v_p1_transcript_wordCount : Int32) (v_p1_transcript_order : Nat → Int32) (v_p1_transcript_durations : Nat → Int32) (v_p1_transcript_sizes : Nat → Int32) (v_p1_transcript_words : Nat → Int32) (v_p1_settings : Nat → Int32) (w_chapterCount : Int32) (w_bestWorth : Int32) (w_segmentCount : Int32) (w_least : Int32) (w_most : Int32) (w_changes : Nat → Int32) (w_firsts : Nat → Int32) (w_chapterAt : Nat → Int32) (w_worths : Nat → Int32) (w_cutCounts : Nat → Int32) (w_lasts : Nat → Int32) (w_starts : Nat → Int32) (w_left : Nat → Int32) (w_right : Nat → Int32) (hF : F_X0_update v_chapterCount v_bestWorth v_segmentCount v_least v_most v_changes v_firsts v_chapterAt v_worths v_cutCounts v_lasts v_starts v_left v_right v_p1_transcript_segmentCount v_p1_transcript_order v_p1_transcript_durations v_p1_transcript_sizes v_p1_transcript_words v_p1_settings = some (w_chapterCount, w_bestWorth, w_segmentCount, w_least, w_most, w_changes, w_firsts, w_chapterAt, w_worths, w_cutCounts, w_lasts, w_starts, w_left, w_right)) : Mv l yX0_update wsX0_update (rmD 3) D (gq_ty cI cJ cZ cO) z [.ref h_t_, .ref h_p1] [(h_t_, .inr (0, [.int v_chapterCount, .int v_bestWorth, .ref h_changes, .ref h_firsts, .ref h_chapterAt, .ref h_worths, .ref h_cutCounts, .ref h_lasts, .ref h_starts, .ref h_ways, .ref h_left, .ref h_right, .int v_segmentCount, .int v_least, .int v_most])), (h_changes, .inl (cI, 31, .inl v_changes)), (h_firsts, .inl (cI, 32, .inl v_firsts)), (h_chapterAt, .inl (cI, 32, .inl v_chapterAt)), (h_worths, .inl (cI, 32, .inl v_worths)), (h_cutCounts, .inl (cI, 32, .inl v_cutCounts)), (h_lasts, .inl (cI, 32, .inl v_lasts)), (h_starts, .inl (cI, 33, .inl v_starts)), (h_left, .inl (cI, 24, .inl v_left)), (h_right, .inl (cI, 24, .inl v_right)), (h_p1, .inr (6, [.ref h_p1_transcript, .ref h_p1_slots, .ref h_p1_kept, .ref h_p1_settings])), (h_p1_transcript, .inr (9, [.int v_p1_transcript_segmentCount, .int v_p1_transcript_wordCount, .ref h_p1_transcript_order, .ref h_p1_transcript_durations, .ref h_p1_transcript_pauses, .ref h_p1_transcript_sizes, .ref h_p1_transcript_words, .ref h_p1_transcript_names])), (h_p1_transcript_order, .inl (cI, 32, .inl v_p1_transcript_order)), (h_p1_transcript_durations, .inl (cI, 32, .inl v_p1_transcript_durations)), (h_p1_transcript_sizes, .inl (cI, 32, .inl v_p1_transcript_sizes)), (h_p1_transcript_words, .inl (cI, 256, .inl v_p1_transcript_words)), (h_p1_settings, .inl (cI, 6, .inl v_p1_settings))] [(h_t_, .inr (0, [.int w_chapterCount, .int w_bestWorth, .ref h_changes, .ref h_firsts, .ref h_chapterAt, .ref h_worths, .ref h_cutCounts, .ref h_lasts, .ref h_starts, .ref h_ways, .ref h_left, .ref h_right, .int w_segmentCount, .int w_least, .int w_most])), (h_changes, .inl (cI, 31, .inl w_changes)), (h_firsts, .inl (cI, 32, .inl w_firsts)), (h_chapterAt, .inl (cI, 32, .inl w_chapterAt)), (h_worths, .inl (cI, 32, .inl w_worths)), (h_cutCounts, .inl (cI, 32, .inl w_cutCounts)), (h_lasts, .inl (cI, 32, .inl w_lasts)), (h_starts, .inl (cI, 33, .inl w_starts)), (h_left, .inl (cI, 24, .inl w_left)), (h_right, .inl (cI, 24, .inl w_right)), (h_p1, .inr (6, [.ref h_p1_transcript, .ref h_p1_slots, .ref h_p1_kept, .ref h_p1_settings])), (h_p1_transcript, .inr (9, [.int v_p1_transcript_segmentCount, .int v_p1_transcript_wordCount, .ref h_p1_transcript_order, .ref h_p1_transcript_durations, .ref h_p1_transcript_pauses, .ref h_p1_transcript_sizes, .ref h_p1_transcript_words, .ref h_p1_transcript_names])), (h_p1_transcript_order, .inl (cI, 32, .inl v_p1_transcript_order)), (h_p1_transcript_durations, .inl (cI, 32, .inl v_p1_transcript_durations)), (h_p1_transcript_sizes, .inl (cI, 32, .inl v_p1_transcript_sizes)), (h_p1_transcript_words, .inl (cI, 256, .inl v_p1_transcript_words)), (h_p1_settings, .inl (cI, 6, .inl v_p1_settings))] 0 0 := by
  refine Mv.of (cc := cX0_update) (maxL := 3) (by decide) rfl (Nat.le_of_ble_eq_true rfl) ⟨Nat.le_refl 0, Nat.le_refl 0⟩ ?_
  intro p e s m args below meth c A hC ha
  have hin_X0 : ∀ w ∈ wsX00, w ∈ wsX0_update := by decide +kernel
  have hin_X6 : ∀ w ∈ wsX60, w ∈ wsX0_update := by decide +kernel
  have hin_X9 : ∀ w ∈ wsX90, w ∈ wsX0_update := by decide +kernel
  have hw_9 : Cond.fieldLink RX0 9 (TX0 2).1 (TX0 2).2.1 (TX0 2).2.2.1 ∈ wsX0_update := by decide +kernel
  have hw_30 : Cond.fieldLink RX0 30 (TX0 8).1 (TX0 8).2.1 (TX0 8).2.2.1 ∈ wsX0_update := by decide +kernel
  have hw_43 : Cond.fieldLink RX0 43 (TX6 0).1 (TX6 0).2.1 (TX6 0).2.2.1 ∈ wsX0_update := by decide +kernel
  have hw_49 : Cond.fieldLink RX0 49 (TX9 0).1 (TX9 0).2.1 (TX9 0).2.2.1 ∈ wsX0_update := by decide +kernel
  have hw_55 : Cond.fieldLink RX0 55 (TX0 12).1 (TX0 12).2.1 (TX0 12).2.2.1 ∈ wsX0_update := by decide +kernel
  have hw_56 : Cond.fieldLink RX0 56 (TX6 3).1 (TX6 3).2.1 (TX6 3).2.2.1 ∈ wsX0_update := by decide +kernel
  have hw_59 : Cond.fieldLink RX0 59 (TX0 13).1 (TX0 13).2.1 (TX0 13).2.2.1 ∈ wsX0_update := by decide +kernel
  have hw_62 : Cond.fieldLink RX0 62 (TX0 14).1 (TX0 14).2.1 (TX0 14).2.2.1 ∈ wsX0_update := by decide +kernel
  have hw_73 : Cond.fieldLink RX0 73 (TX0 0).1 (TX0 0).2.1 (TX0 0).2.2.1 ∈ wsX0_update := by decide +kernel
  obtain ⟨Q, hQ⟩ : ∃ Q, Q = gq_Qv below D A args s [(h_t_, .inr (0, [.int w_chapterCount, .int w_bestWorth, .ref h_changes, .ref h_firsts, .ref h_chapterAt, .ref h_worths, .ref h_cutCounts, .ref h_lasts, .ref h_starts, .ref h_ways, .ref h_left, .ref h_right, .int w_segmentCount, .int w_least, .int w_most])), (h_changes, .inl (cI, 31, .inl w_changes)), (h_firsts, .inl (cI, 32, .inl w_firsts)), (h_chapterAt, .inl (cI, 32, .inl w_chapterAt)), (h_worths, .inl (cI, 32, .inl w_worths)), (h_cutCounts, .inl (cI, 32, .inl w_cutCounts)), (h_lasts, .inl (cI, 32, .inl w_lasts)), (h_starts, .inl (cI, 33, .inl w_starts)), (h_left, .inl (cI, 24, .inl w_left)), (h_right, .inl (cI, 24, .inl w_right)), (h_p1, .inr (6, [.ref h_p1_transcript, .ref h_p1_slots, .ref h_p1_kept, .ref h_p1_settings])), (h_p1_transcript, .inr (9, [.int v_p1_transcript_segmentCount, .int v_p1_transcript_wordCount, .ref h_p1_transcript_order, .ref h_p1_transcript_durations, .ref h_p1_transcript_pauses, .ref h_p1_transcript_sizes, .ref h_p1_transcript_words, .ref h_p1_transcript_names])), (h_p1_transcript_order, .inl (cI, 32, .inl v_p1_transcript_order)), (h_p1_transcript_durations, .inl (cI, 32, .inl v_p1_transcript_durations)), (h_p1_transcript_sizes, .inl (cI, 32, .inl v_p1_transcript_sizes)), (h_p1_transcript_words, .inl (cI, 256, .inl v_p1_transcript_words)), (h_p1_settings, .inl (cI, 6, .inl v_p1_settings))] 0 0 := ⟨_, rfl⟩
  rw [← hQ]
  refine gq_loc [(0, .ref h_t_), (1, .ref h_p1)] rfl ?_
  unfold F_X0_update at hF
  refine gq_aload_n hC 0 dX0_update_0 rfl rfl ?_
  refine gq_aload_n hC 1 dX0_update_1 rfl rfl ?_
  refine gq_get hC (kf := 0) 10 hin_X6 rfl rfl (by decide) hw_43 rfl dX0_update_2 ?_
  refine gq_get hC (kf := 0) 11 hin_X9 rfl rfl (by decide) hw_49 rfl dX0_update_5 ?_
  refine gq_put1 hC (kf := 12) 0 [(h_t_, .inr (0, [.int v_chapterCount, .int v_bestWorth, .ref h_changes, .ref h_firsts, .ref h_chapterAt, .ref h_worths, .ref h_cutCounts, .ref h_lasts, .ref h_starts, .ref h_ways, .ref h_left, .ref h_right, .int v_p1_transcript_segmentCount, .int v_least, .int v_most])), (h_changes, .inl (cI, 31, .inl v_changes)), (h_firsts, .inl (cI, 32, .inl v_firsts)), (h_chapterAt, .inl (cI, 32, .inl v_chapterAt)), (h_worths, .inl (cI, 32, .inl v_worths)), (h_cutCounts, .inl (cI, 32, .inl v_cutCounts)), (h_lasts, .inl (cI, 32, .inl v_lasts)), (h_starts, .inl (cI, 33, .inl v_starts)), (h_left, .inl (cI, 24, .inl v_left)), (h_right, .inl (cI, 24, .inl v_right)), (h_p1, .inr (6, [.ref h_p1_transcript, .ref h_p1_slots, .ref h_p1_kept, .ref h_p1_settings])), (h_p1_transcript, .inr (9, [.int v_p1_transcript_segmentCount, .int v_p1_transcript_wordCount, .ref h_p1_transcript_order, .ref h_p1_transcript_durations, .ref h_p1_transcript_pauses, .ref h_p1_transcript_sizes, .ref h_p1_transcript_words, .ref h_p1_transcript_names])), (h_p1_transcript_order, .inl (cI, 32, .inl v_p1_transcript_order)), (h_p1_transcript_durations, .inl (cI, 32, .inl v_p1_transcript_durations)), (h_p1_transcript_sizes, .inl (cI, 32, .inl v_p1_transcript_sizes)), (h_p1_transcript_words, .inl (cI, 256, .inl v_p1_transcript_words)), (h_p1_settings, .inl (cI, 6, .inl v_p1_settings))] tyX0 tyX0_ok nmX0 hin_X0 rfl rfl (by decide) hw_55 rfl rfl rfl (Nat.le_of_ble_eq_true rfl) dX0_update_8 rfl ?_
  refine gq_aload_n hC 0 dX0_update_11 rfl rfl ?_
  refine gq_aload_n hC 1 dX0_update_12 rfl rfl ?_
  refine gq_get hC (kf := 3) 10 hin_X6 rfl rfl (by decide) hw_56 rfl dX0_update_13 ?_
  refine gq_iconst hC (0 : Int32) dX0_update_16 (by decide) ?_
  obtain ⟨hi_1, hF⟩ := gi_e hF
  refine gq_iald hC 16 0 rfl rfl hi_1 dX0_update_17 ?_
  refine gq_put1 hC (kf := 13) 0 [(h_t_, .inr (0, [.int v_chapterCount, .int v_bestWorth, .ref h_changes, .ref h_firsts, .ref h_chapterAt, .ref h_worths, .ref h_cutCounts, .ref h_lasts, .ref h_starts, .ref h_ways, .ref h_left, .ref h_right, .int v_p1_transcript_segmentCount, .int (v_p1_settings (0 : Int32).toNatClampNeg), .int v_most])), (h_changes, .inl (cI, 31, .inl v_changes)), (h_firsts, .inl (cI, 32, .inl v_firsts)), (h_chapterAt, .inl (cI, 32, .inl v_chapterAt)), (h_worths, .inl (cI, 32, .inl v_worths)), (h_cutCounts, .inl (cI, 32, .inl v_cutCounts)), (h_lasts, .inl (cI, 32, .inl v_lasts)), (h_starts, .inl (cI, 33, .inl v_starts)), (h_left, .inl (cI, 24, .inl v_left)), (h_right, .inl (cI, 24, .inl v_right)), (h_p1, .inr (6, [.ref h_p1_transcript, .ref h_p1_slots, .ref h_p1_kept, .ref h_p1_settings])), (h_p1_transcript, .inr (9, [.int v_p1_transcript_segmentCount, .int v_p1_transcript_wordCount, .ref h_p1_transcript_order, .ref h_p1_transcript_durations, .ref h_p1_transcript_pauses, .ref h_p1_transcript_sizes, .ref h_p1_transcript_words, .ref h_p1_transcript_names])), (h_p1_transcript_order, .inl (cI, 32, .inl v_p1_transcript_order)), (h_p1_transcript_durations, .inl (cI, 32, .inl v_p1_transcript_durations)), (h_p1_transcript_sizes, .inl (cI, 32, .inl v_p1_transcript_sizes)), (h_p1_transcript_words, .inl (cI, 256, .inl v_p1_transcript_words)), (h_p1_settings, .inl (cI, 6, .inl v_p1_settings))] tyX0 tyX0_ok nmX0 hin_X0 rfl rfl (by decide) hw_59 rfl rfl rfl (Nat.le_of_ble_eq_true rfl) dX0_update_18 rfl ?_
  refine gq_aload_n hC 0 dX0_update_21 rfl rfl ?_
  refine gq_aload_n hC 1 dX0_update_22 rfl rfl ?_
  refine gq_get hC (kf := 3) 10 hin_X6 rfl rfl (by decide) hw_56 rfl dX0_update_23 ?_
  refine gq_iconst hC (1 : Int32) dX0_update_26 (by decide) ?_
  obtain ⟨hi_2, hF⟩ := gi_e hF
  refine gq_iald hC 16 0 rfl rfl hi_2 dX0_update_27 ?_
  refine gq_put1 hC (kf := 14) 0 [(h_t_, .inr (0, [.int v_chapterCount, .int v_bestWorth, .ref h_changes, .ref h_firsts, .ref h_chapterAt, .ref h_worths, .ref h_cutCounts, .ref h_lasts, .ref h_starts, .ref h_ways, .ref h_left, .ref h_right, .int v_p1_transcript_segmentCount, .int (v_p1_settings (0 : Int32).toNatClampNeg), .int (v_p1_settings (1 : Int32).toNatClampNeg)])), (h_changes, .inl (cI, 31, .inl v_changes)), (h_firsts, .inl (cI, 32, .inl v_firsts)), (h_chapterAt, .inl (cI, 32, .inl v_chapterAt)), (h_worths, .inl (cI, 32, .inl v_worths)), (h_cutCounts, .inl (cI, 32, .inl v_cutCounts)), (h_lasts, .inl (cI, 32, .inl v_lasts)), (h_starts, .inl (cI, 33, .inl v_starts)), (h_left, .inl (cI, 24, .inl v_left)), (h_right, .inl (cI, 24, .inl v_right)), (h_p1, .inr (6, [.ref h_p1_transcript, .ref h_p1_slots, .ref h_p1_kept, .ref h_p1_settings])), (h_p1_transcript, .inr (9, [.int v_p1_transcript_segmentCount, .int v_p1_transcript_wordCount, .ref h_p1_transcript_order, .ref h_p1_transcript_durations, .ref h_p1_transcript_pauses, .ref h_p1_transcript_sizes, .ref h_p1_transcript_words, .ref h_p1_transcript_names])), (h_p1_transcript_order, .inl (cI, 32, .inl v_p1_transcript_order)), (h_p1_transcript_durations, .inl (cI, 32, .inl v_p1_transcript_durations)), (h_p1_transcript_sizes, .inl (cI, 32, .inl v_p1_transcript_sizes)), (h_p1_transcript_words, .inl (cI, 256, .inl v_p1_transcript_words)), (h_p1_settings, .inl (cI, 6, .inl v_p1_settings))] tyX0 tyX0_ok nmX0 hin_X0 rfl rfl (by decide) hw_62 rfl rfl rfl (Nat.le_of_ble_eq_true rfl) dX0_update_28 rfl ?_
  refine gq_aload_n hC 0 dX0_update_31 rfl rfl ?_
  refine gq_get hC (kf := 8) 0 hin_X0 rfl rfl (by decide) hw_30 rfl dX0_update_32 ?_
  refine gq_iconst hC (0 : Int32) dX0_update_35 (by decide) ?_
  refine gq_iconst hC (0 : Int32) dX0_update_36 (by decide) ?_
  obtain ⟨hi_3, hF⟩ := gi_e hF
  refine gq_iast hC 7 0 [(h_t_, .inr (0, [.int v_chapterCount, .int v_bestWorth, .ref h_changes, .ref h_firsts, .ref h_chapterAt, .ref h_worths, .ref h_cutCounts, .ref h_lasts, .ref h_starts, .ref h_ways, .ref h_left, .ref h_right, .int v_p1_transcript_segmentCount, .int (v_p1_settings (0 : Int32).toNatClampNeg), .int (v_p1_settings (1 : Int32).toNatClampNeg)])), (h_changes, .inl (cI, 31, .inl v_changes)), (h_firsts, .inl (cI, 32, .inl v_firsts)), (h_chapterAt, .inl (cI, 32, .inl v_chapterAt)), (h_worths, .inl (cI, 32, .inl v_worths)), (h_cutCounts, .inl (cI, 32, .inl v_cutCounts)), (h_lasts, .inl (cI, 32, .inl v_lasts)), (h_starts, .inl (cI, 33, .inl (upd v_starts (0 : Int32).toNatClampNeg (0 : Int32)))), (h_left, .inl (cI, 24, .inl v_left)), (h_right, .inl (cI, 24, .inl v_right)), (h_p1, .inr (6, [.ref h_p1_transcript, .ref h_p1_slots, .ref h_p1_kept, .ref h_p1_settings])), (h_p1_transcript, .inr (9, [.int v_p1_transcript_segmentCount, .int v_p1_transcript_wordCount, .ref h_p1_transcript_order, .ref h_p1_transcript_durations, .ref h_p1_transcript_pauses, .ref h_p1_transcript_sizes, .ref h_p1_transcript_words, .ref h_p1_transcript_names])), (h_p1_transcript_order, .inl (cI, 32, .inl v_p1_transcript_order)), (h_p1_transcript_durations, .inl (cI, 32, .inl v_p1_transcript_durations)), (h_p1_transcript_sizes, .inl (cI, 32, .inl v_p1_transcript_sizes)), (h_p1_transcript_words, .inl (cI, 256, .inl v_p1_transcript_words)), (h_p1_settings, .inl (cI, 6, .inl v_p1_settings))] rfl rfl hi_3 dX0_update_37 rfl ?_
  refine gq_iconst hC (0 : Int32) dX0_update_38 (by decide) ?_
  refine gq_istore_n hC [(2, .int (0 : Int32)), (0, .ref h_t_), (1, .ref h_p1)] dX0_update_39 rfl (by decide) rfl ?_
  have lp40 : ∀ (v_chapterCount_5 : Int32) (v_bestWorth_6 : Int32) (v_segmentCount_7 : Int32) (v_least_8 : Int32) (v_most_9 : Int32) (v_changes_10 : Nat → Int32) (v_firsts_11 : Nat → Int32) (v_chapterAt_12 : Nat → Int32) (v_worths_13 : Nat → Int32) (v_cutCounts_14 : Nat → Int32) (v_lasts_15 : Nat → Int32) (v_left_17 : Nat → Int32) (v_right_18 : Nat → Int32), ∀ (e_23 : (Nat → Int32)), Gx p l e (rmD 3) s m args below meth c D A 3 Q 0 0 77 [(0, .ref h_t_), (1, .ref h_p1)] [] [(h_t_, .inr (0, [.int v_chapterCount_5, .int v_bestWorth_6, .ref h_changes, .ref h_firsts, .ref h_chapterAt, .ref h_worths, .ref h_cutCounts, .ref h_lasts, .ref h_starts, .ref h_ways, .ref h_left, .ref h_right, .int v_segmentCount_7, .int v_least_8, .int v_most_9])), (h_changes, .inl (cI, 31, .inl v_changes_10)), (h_firsts, .inl (cI, 32, .inl v_firsts_11)), (h_chapterAt, .inl (cI, 32, .inl v_chapterAt_12)), (h_worths, .inl (cI, 32, .inl v_worths_13)), (h_cutCounts, .inl (cI, 32, .inl v_cutCounts_14)), (h_lasts, .inl (cI, 32, .inl v_lasts_15)), (h_starts, .inl (cI, 33, .inl e_23)), (h_left, .inl (cI, 24, .inl v_left_17)), (h_right, .inl (cI, 24, .inl v_right_18)), (h_p1, .inr (6, [.ref h_p1_transcript, .ref h_p1_slots, .ref h_p1_kept, .ref h_p1_settings])), (h_p1_transcript, .inr (9, [.int v_p1_transcript_segmentCount, .int v_p1_transcript_wordCount, .ref h_p1_transcript_order, .ref h_p1_transcript_durations, .ref h_p1_transcript_pauses, .ref h_p1_transcript_sizes, .ref h_p1_transcript_words, .ref h_p1_transcript_names])), (h_p1_transcript_order, .inl (cI, 32, .inl v_p1_transcript_order)), (h_p1_transcript_durations, .inl (cI, 32, .inl v_p1_transcript_durations)), (h_p1_transcript_sizes, .inl (cI, 32, .inl v_p1_transcript_sizes)), (h_p1_transcript_words, .inl (cI, 256, .inl v_p1_transcript_words)), (h_p1_settings, .inl (cI, 6, .inl v_p1_settings))] → ∀ (N : Nat) (l2_4 : Int32) (v_starts_16 : Nat → Int32), wh (fun k q => S_X0_update_40 v_chapterCount_5 v_bestWorth_6 v_segmentCount_7 v_least_8 v_most_9 v_changes_10 v_firsts_11 v_chapterAt_12 v_worths_13 v_cutCounts_14 v_lasts_15 v_left_17 v_right_18 v_p1_transcript_order v_p1_transcript_durations v_p1_transcript_sizes v_p1_transcript_words v_p1_settings k q.1 q.2) N (l2_4, v_starts_16) = some e_23 → Gx p l e (rmD 3) s m args below meth c D A 3 Q 0 0 40 [(0, .ref h_t_), (1, .ref h_p1), (2, .int l2_4)] [] [(h_t_, .inr (0, [.int v_chapterCount_5, .int v_bestWorth_6, .ref h_changes, .ref h_firsts, .ref h_chapterAt, .ref h_worths, .ref h_cutCounts, .ref h_lasts, .ref h_starts, .ref h_ways, .ref h_left, .ref h_right, .int v_segmentCount_7, .int v_least_8, .int v_most_9])), (h_changes, .inl (cI, 31, .inl v_changes_10)), (h_firsts, .inl (cI, 32, .inl v_firsts_11)), (h_chapterAt, .inl (cI, 32, .inl v_chapterAt_12)), (h_worths, .inl (cI, 32, .inl v_worths_13)), (h_cutCounts, .inl (cI, 32, .inl v_cutCounts_14)), (h_lasts, .inl (cI, 32, .inl v_lasts_15)), (h_starts, .inl (cI, 33, .inl v_starts_16)), (h_left, .inl (cI, 24, .inl v_left_17)), (h_right, .inl (cI, 24, .inl v_right_18)), (h_p1, .inr (6, [.ref h_p1_transcript, .ref h_p1_slots, .ref h_p1_kept, .ref h_p1_settings])), (h_p1_transcript, .inr (9, [.int v_p1_transcript_segmentCount, .int v_p1_transcript_wordCount, .ref h_p1_transcript_order, .ref h_p1_transcript_durations, .ref h_p1_transcript_pauses, .ref h_p1_transcript_sizes, .ref h_p1_transcript_words, .ref h_p1_transcript_names])), (h_p1_transcript_order, .inl (cI, 32, .inl v_p1_transcript_order)), (h_p1_transcript_durations, .inl (cI, 32, .inl v_p1_transcript_durations)), (h_p1_transcript_sizes, .inl (cI, 32, .inl v_p1_transcript_sizes)), (h_p1_transcript_words, .inl (cI, 256, .inl v_p1_transcript_words)), (h_p1_settings, .inl (cI, 6, .inl v_p1_settings))] := by
    intro v_chapterCount_5 v_bestWorth_6 v_segmentCount_7 v_least_8 v_most_9 v_changes_10 v_firsts_11 v_chapterAt_12 v_worths_13 v_cutCounts_14 v_lasts_15 v_left_17 v_right_18 e_23 hx0 N
    induction N with
    | zero => intro l2_4 v_starts_16 hw; exact absurd hw (wh_0 _ _ _)
    | succ N ih =>
      intro l2_4 v_starts_16 hw
      have hF : S_X0_update_40 v_chapterCount_5 v_bestWorth_6 v_segmentCount_7 v_least_8 v_most_9 v_changes_10 v_firsts_11 v_chapterAt_12 v_worths_13 v_cutCounts_14 v_lasts_15 v_left_17 v_right_18 v_p1_transcript_order v_p1_transcript_durations v_p1_transcript_sizes v_p1_transcript_words v_p1_settings (wh (fun k q => S_X0_update_40 v_chapterCount_5 v_bestWorth_6 v_segmentCount_7 v_least_8 v_most_9 v_changes_10 v_firsts_11 v_chapterAt_12 v_worths_13 v_cutCounts_14 v_lasts_15 v_left_17 v_right_18 v_p1_transcript_order v_p1_transcript_durations v_p1_transcript_sizes v_p1_transcript_words v_p1_settings k q.1 q.2) N) l2_4 v_starts_16 = some e_23 := hw
      unfold S_X0_update_40 at hF
      refine gq_iload_n hC 2 dX0_update_40 rfl rfl ?_
      refine gq_aload_n hC 0 dX0_update_41 rfl rfl ?_
      refine gq_get hC (kf := 12) 0 hin_X0 rfl rfl (by decide) hw_55 rfl dX0_update_42 ?_
      refine gq_icmp_ge hC 77 dX0_update_45 (by decide) (fun hc_22 => ?_) (fun hc_22 => ?_)
      · have hF := (if_pos hc_22).symm.trans hF
        refine gq_sub [(0, .ref h_t_), (1, .ref h_p1)] [0, 1] rfl ?_
        cases hF
        exact hx0
      · have hF := (if_neg hc_22).symm.trans hF
        refine gq_aload_n hC 0 dX0_update_48 rfl rfl ?_
        refine gq_get hC (kf := 8) 0 hin_X0 rfl rfl (by decide) hw_30 rfl dX0_update_49 ?_
        refine gq_iload_n hC 2 dX0_update_52 rfl rfl ?_
        refine gq_iconst hC (1 : Int32) dX0_update_53 (by decide) ?_
        refine gq_iadd hC dX0_update_54 ?_
        refine gq_aload_n hC 0 dX0_update_55 rfl rfl ?_
        refine gq_get hC (kf := 8) 0 hin_X0 rfl rfl (by decide) hw_30 rfl dX0_update_56 ?_
        refine gq_iload_n hC 2 dX0_update_59 rfl rfl ?_
        obtain ⟨hi_19, hF⟩ := gi_e hF
        refine gq_iald hC 7 0 rfl rfl hi_19 dX0_update_60 ?_
        refine gq_aload_n hC 1 dX0_update_61 rfl rfl ?_
        refine gq_get hC (kf := 0) 10 hin_X6 rfl rfl (by decide) hw_43 rfl dX0_update_62 ?_
        refine gq_iload_n hC 2 dX0_update_65 rfl rfl ?_
        obtain ⟨r_20, hc_, hF⟩ := ob1_e hF
        refine gq_callVi hC [11, 12, 13] [(h_t_, .inr (0, [.int v_chapterCount_5, .int v_bestWorth_6, .ref h_changes, .ref h_firsts, .ref h_chapterAt, .ref h_worths, .ref h_cutCounts, .ref h_lasts, .ref h_starts, .ref h_ways, .ref h_left, .ref h_right, .int v_segmentCount_7, .int v_least_8, .int v_most_9])), (h_changes, .inl (cI, 31, .inl v_changes_10)), (h_firsts, .inl (cI, 32, .inl v_firsts_11)), (h_chapterAt, .inl (cI, 32, .inl v_chapterAt_12)), (h_worths, .inl (cI, 32, .inl v_worths_13)), (h_cutCounts, .inl (cI, 32, .inl v_cutCounts_14)), (h_lasts, .inl (cI, 32, .inl v_lasts_15)), (h_starts, .inl (cI, 33, .inl v_starts_16)), (h_left, .inl (cI, 24, .inl v_left_17)), (h_right, .inl (cI, 24, .inl v_right_18)), (h_p1, .inr (6, [.ref h_p1_transcript, .ref h_p1_slots, .ref h_p1_kept, .ref h_p1_settings])), (h_p1_transcript, .inr (9, [.int v_p1_transcript_segmentCount, .int v_p1_transcript_wordCount, .ref h_p1_transcript_order, .ref h_p1_transcript_durations, .ref h_p1_transcript_pauses, .ref h_p1_transcript_sizes, .ref h_p1_transcript_words, .ref h_p1_transcript_names])), (h_p1_transcript_order, .inl (cI, 32, .inl v_p1_transcript_order)), (h_p1_transcript_durations, .inl (cI, 32, .inl v_p1_transcript_durations)), (h_p1_transcript_sizes, .inl (cI, 32, .inl v_p1_transcript_sizes)), (h_p1_transcript_words, .inl (cI, 256, .inl v_p1_transcript_words)), (h_p1_settings, .inl (cI, 6, .inl v_p1_settings))] [.int l2_4] [.int (v_starts_16 l2_4.toNatClampNeg), .int (l2_4 + (1 : Int32)), .ref h_starts] (k_X9_durationOf l D cI cJ cZ cO z h_p1_transcript h_p1_transcript_order h_p1_transcript_durations h_p1_transcript_pauses h_p1_transcript_sizes h_p1_transcript_words h_p1_transcript_names l2_4 v_p1_transcript_segmentCount v_p1_transcript_wordCount v_p1_transcript_order v_p1_transcript_durations r_20 hc_) gX0_update_X9_durationOf rfl ⟨rfl, rfl⟩ hy_X9_durationOf ⟨Nat.le_of_ble_eq_true rfl, Nat.le_of_ble_eq_true rfl⟩ rfl rfl rfl (q0 := 0) rfl rfl rfl (Nat.le_of_ble_eq_true rfl) rfl dX0_update_66 rfl rfl ?_
        refine gq_iadd hC dX0_update_69 ?_
        obtain ⟨hi_21, hF⟩ := gi_e hF
        refine gq_iast hC 7 0 [(h_t_, .inr (0, [.int v_chapterCount_5, .int v_bestWorth_6, .ref h_changes, .ref h_firsts, .ref h_chapterAt, .ref h_worths, .ref h_cutCounts, .ref h_lasts, .ref h_starts, .ref h_ways, .ref h_left, .ref h_right, .int v_segmentCount_7, .int v_least_8, .int v_most_9])), (h_changes, .inl (cI, 31, .inl v_changes_10)), (h_firsts, .inl (cI, 32, .inl v_firsts_11)), (h_chapterAt, .inl (cI, 32, .inl v_chapterAt_12)), (h_worths, .inl (cI, 32, .inl v_worths_13)), (h_cutCounts, .inl (cI, 32, .inl v_cutCounts_14)), (h_lasts, .inl (cI, 32, .inl v_lasts_15)), (h_starts, .inl (cI, 33, .inl (upd v_starts_16 (l2_4 + (1 : Int32)).toNatClampNeg ((v_starts_16 l2_4.toNatClampNeg) + r_20)))), (h_left, .inl (cI, 24, .inl v_left_17)), (h_right, .inl (cI, 24, .inl v_right_18)), (h_p1, .inr (6, [.ref h_p1_transcript, .ref h_p1_slots, .ref h_p1_kept, .ref h_p1_settings])), (h_p1_transcript, .inr (9, [.int v_p1_transcript_segmentCount, .int v_p1_transcript_wordCount, .ref h_p1_transcript_order, .ref h_p1_transcript_durations, .ref h_p1_transcript_pauses, .ref h_p1_transcript_sizes, .ref h_p1_transcript_words, .ref h_p1_transcript_names])), (h_p1_transcript_order, .inl (cI, 32, .inl v_p1_transcript_order)), (h_p1_transcript_durations, .inl (cI, 32, .inl v_p1_transcript_durations)), (h_p1_transcript_sizes, .inl (cI, 32, .inl v_p1_transcript_sizes)), (h_p1_transcript_words, .inl (cI, 256, .inl v_p1_transcript_words)), (h_p1_settings, .inl (cI, 6, .inl v_p1_settings))] rfl rfl hi_21 dX0_update_70 rfl ?_
        refine gq_iinc hC 2 (l2_4 + (1 : Int32)) [(2, .int (l2_4 + (1 : Int32))), (0, .ref h_t_), (1, .ref h_p1)] dX0_update_71 rfl rfl (by decide) rfl ?_
        refine gq_goto hC 40 dX0_update_74 (by decide) ?_
        refine gq_sub [(0, .ref h_t_), (1, .ref h_p1), (2, .int (l2_4 + (1 : Int32)))] [1, 2, 0] rfl ?_
        exact ih (l2_4 + (1 : Int32)) (upd v_starts_16 (l2_4 + (1 : Int32)).toNatClampNeg ((v_starts_16 l2_4.toNatClampNeg) + r_20)) hF
  refine gq_sub [(0, .ref h_t_), (1, .ref h_p1), (2, .int (0 : Int32))] [1, 2, 0] rfl ?_
  obtain ⟨e_24, hw_, hF⟩ := ob1_e hF
  refine lp40 v_chapterCount v_bestWorth v_p1_transcript_segmentCount (v_p1_settings (0 : Int32).toNatClampNeg) (v_p1_settings (1 : Int32).toNatClampNeg) v_changes v_firsts v_chapterAt v_worths v_cutCounts v_lasts v_left v_right e_24 ?_ wF (0 : Int32) (upd v_starts (0 : Int32).toNatClampNeg (0 : Int32)) hw_
  refine gq_iconst hC (0 : Int32) dX0_update_77 (by decide) ?_
  refine gq_istore_n hC [(2, .int (0 : Int32)), (0, .ref h_t_), (1, .ref h_p1)] dX0_update_78 rfl (by decide) rfl ?_
  have lp79 : ∀ (v_chapterCount_26 : Int32) (v_bestWorth_27 : Int32) (v_segmentCount_28 : Int32) (v_least_29 : Int32) (v_most_30 : Int32) (v_firsts_32 : Nat → Int32) (v_chapterAt_33 : Nat → Int32) (v_worths_34 : Nat → Int32) (v_cutCounts_35 : Nat → Int32) (v_lasts_36 : Nat → Int32) (v_starts_37 : Nat → Int32), ∀ (e_46 : (Nat → Int32)) (e_47 : (Nat → Int32)) (e_48 : (Nat → Int32)), Gx p l e (rmD 3) s m args below meth c D A 3 Q 0 0 119 [(0, .ref h_t_), (1, .ref h_p1)] [] [(h_t_, .inr (0, [.int v_chapterCount_26, .int v_bestWorth_27, .ref h_changes, .ref h_firsts, .ref h_chapterAt, .ref h_worths, .ref h_cutCounts, .ref h_lasts, .ref h_starts, .ref h_ways, .ref h_left, .ref h_right, .int v_segmentCount_28, .int v_least_29, .int v_most_30])), (h_changes, .inl (cI, 31, .inl e_46)), (h_firsts, .inl (cI, 32, .inl v_firsts_32)), (h_chapterAt, .inl (cI, 32, .inl v_chapterAt_33)), (h_worths, .inl (cI, 32, .inl v_worths_34)), (h_cutCounts, .inl (cI, 32, .inl v_cutCounts_35)), (h_lasts, .inl (cI, 32, .inl v_lasts_36)), (h_starts, .inl (cI, 33, .inl v_starts_37)), (h_left, .inl (cI, 24, .inl e_47)), (h_right, .inl (cI, 24, .inl e_48)), (h_p1, .inr (6, [.ref h_p1_transcript, .ref h_p1_slots, .ref h_p1_kept, .ref h_p1_settings])), (h_p1_transcript, .inr (9, [.int v_p1_transcript_segmentCount, .int v_p1_transcript_wordCount, .ref h_p1_transcript_order, .ref h_p1_transcript_durations, .ref h_p1_transcript_pauses, .ref h_p1_transcript_sizes, .ref h_p1_transcript_words, .ref h_p1_transcript_names])), (h_p1_transcript_order, .inl (cI, 32, .inl v_p1_transcript_order)), (h_p1_transcript_durations, .inl (cI, 32, .inl v_p1_transcript_durations)), (h_p1_transcript_sizes, .inl (cI, 32, .inl v_p1_transcript_sizes)), (h_p1_transcript_words, .inl (cI, 256, .inl v_p1_transcript_words)), (h_p1_settings, .inl (cI, 6, .inl v_p1_settings))] → ∀ (N : Nat) (l2_25 : Int32) (v_changes_31 : Nat → Int32) (v_left_38 : Nat → Int32) (v_right_39 : Nat → Int32), wh (fun k q => S_X0_update_79 v_chapterCount_26 v_bestWorth_27 v_segmentCount_28 v_least_29 v_most_30 v_firsts_32 v_chapterAt_33 v_worths_34 v_cutCounts_35 v_lasts_36 v_starts_37 v_p1_transcript_order v_p1_transcript_sizes v_p1_transcript_words v_p1_settings k q.1 q.2.1 q.2.2.1 q.2.2.2) N (l2_25, v_changes_31, v_left_38, v_right_39) = some (e_46, e_47, e_48) → Gx p l e (rmD 3) s m args below meth c D A 3 Q 0 0 79 [(0, .ref h_t_), (1, .ref h_p1), (2, .int l2_25)] [] [(h_t_, .inr (0, [.int v_chapterCount_26, .int v_bestWorth_27, .ref h_changes, .ref h_firsts, .ref h_chapterAt, .ref h_worths, .ref h_cutCounts, .ref h_lasts, .ref h_starts, .ref h_ways, .ref h_left, .ref h_right, .int v_segmentCount_28, .int v_least_29, .int v_most_30])), (h_changes, .inl (cI, 31, .inl v_changes_31)), (h_firsts, .inl (cI, 32, .inl v_firsts_32)), (h_chapterAt, .inl (cI, 32, .inl v_chapterAt_33)), (h_worths, .inl (cI, 32, .inl v_worths_34)), (h_cutCounts, .inl (cI, 32, .inl v_cutCounts_35)), (h_lasts, .inl (cI, 32, .inl v_lasts_36)), (h_starts, .inl (cI, 33, .inl v_starts_37)), (h_left, .inl (cI, 24, .inl v_left_38)), (h_right, .inl (cI, 24, .inl v_right_39)), (h_p1, .inr (6, [.ref h_p1_transcript, .ref h_p1_slots, .ref h_p1_kept, .ref h_p1_settings])), (h_p1_transcript, .inr (9, [.int v_p1_transcript_segmentCount, .int v_p1_transcript_wordCount, .ref h_p1_transcript_order, .ref h_p1_transcript_durations, .ref h_p1_transcript_pauses, .ref h_p1_transcript_sizes, .ref h_p1_transcript_words, .ref h_p1_transcript_names])), (h_p1_transcript_order, .inl (cI, 32, .inl v_p1_transcript_order)), (h_p1_transcript_durations, .inl (cI, 32, .inl v_p1_transcript_durations)), (h_p1_transcript_sizes, .inl (cI, 32, .inl v_p1_transcript_sizes)), (h_p1_transcript_words, .inl (cI, 256, .inl v_p1_transcript_words)), (h_p1_settings, .inl (cI, 6, .inl v_p1_settings))] := by
    intro v_chapterCount_26 v_bestWorth_27 v_segmentCount_28 v_least_29 v_most_30 v_firsts_32 v_chapterAt_33 v_worths_34 v_cutCounts_35 v_lasts_36 v_starts_37 e_46 e_47 e_48 hx0 N
    induction N with
    | zero => intro l2_25 v_changes_31 v_left_38 v_right_39 hw; exact absurd hw (wh_0 _ _ _)
    | succ N ih =>
      intro l2_25 v_changes_31 v_left_38 v_right_39 hw
      have hF : S_X0_update_79 v_chapterCount_26 v_bestWorth_27 v_segmentCount_28 v_least_29 v_most_30 v_firsts_32 v_chapterAt_33 v_worths_34 v_cutCounts_35 v_lasts_36 v_starts_37 v_p1_transcript_order v_p1_transcript_sizes v_p1_transcript_words v_p1_settings (wh (fun k q => S_X0_update_79 v_chapterCount_26 v_bestWorth_27 v_segmentCount_28 v_least_29 v_most_30 v_firsts_32 v_chapterAt_33 v_worths_34 v_cutCounts_35 v_lasts_36 v_starts_37 v_p1_transcript_order v_p1_transcript_sizes v_p1_transcript_words v_p1_settings k q.1 q.2.1 q.2.2.1 q.2.2.2) N) l2_25 v_changes_31 v_left_38 v_right_39 = some (e_46, e_47, e_48) := hw
      unfold S_X0_update_79 at hF
      refine gq_iload_n hC 2 dX0_update_79 rfl rfl ?_
      refine gq_aload_n hC 0 dX0_update_80 rfl rfl ?_
      refine gq_get hC (kf := 12) 0 hin_X0 rfl rfl (by decide) hw_55 rfl dX0_update_81 ?_
      refine gq_iconst hC (1 : Int32) dX0_update_84 (by decide) ?_
      refine gq_isub hC dX0_update_85 ?_
      refine gq_icmp_ge hC 119 dX0_update_86 (by decide) (fun hc_45 => ?_) (fun hc_45 => ?_)
      · have hF := (if_pos hc_45).symm.trans hF
        refine gq_sub [(0, .ref h_t_), (1, .ref h_p1)] [0, 1] rfl ?_
        cases hF
        exact hx0
      · have hF := (if_neg hc_45).symm.trans hF
        refine gq_aload_n hC 0 dX0_update_89 rfl rfl ?_
        refine gq_get hC (kf := 2) 0 hin_X0 rfl rfl (by decide) hw_9 rfl dX0_update_90 ?_
        refine gq_iload_n hC 2 dX0_update_93 rfl rfl ?_
        refine gq_bipush hC (100 : Int32) dX0_update_94 (by decide) ?_
        refine gq_aload_n hC 0 dX0_update_96 rfl rfl ?_
        refine gq_aload_n hC 1 dX0_update_97 rfl rfl ?_
        refine gq_get hC (kf := 0) 10 hin_X6 rfl rfl (by decide) hw_43 rfl dX0_update_98 ?_
        refine gq_iload_n hC 2 dX0_update_101 rfl rfl ?_
        refine gq_aload_n hC 1 dX0_update_102 rfl rfl ?_
        refine gq_get hC (kf := 3) 10 hin_X6 rfl rfl (by decide) hw_56 rfl dX0_update_103 ?_
        refine gq_iconst hC (2 : Int32) dX0_update_106 (by decide) ?_
        obtain ⟨hi_40, hF⟩ := gi_e hF
        refine gq_iald hC 16 0 rfl rfl hi_40 dX0_update_107 ?_
        obtain ⟨r_41, v_left_42, v_right_43, hc_, hF⟩ := ob3_e hF
        refine gq_callVi hC [0, 8, 9, 11, 12, 14, 15] [(h_t_, .inr (0, [.int v_chapterCount_26, .int v_bestWorth_27, .ref h_changes, .ref h_firsts, .ref h_chapterAt, .ref h_worths, .ref h_cutCounts, .ref h_lasts, .ref h_starts, .ref h_ways, .ref h_left, .ref h_right, .int v_segmentCount_28, .int v_least_29, .int v_most_30])), (h_changes, .inl (cI, 31, .inl v_changes_31)), (h_firsts, .inl (cI, 32, .inl v_firsts_32)), (h_chapterAt, .inl (cI, 32, .inl v_chapterAt_33)), (h_worths, .inl (cI, 32, .inl v_worths_34)), (h_cutCounts, .inl (cI, 32, .inl v_cutCounts_35)), (h_lasts, .inl (cI, 32, .inl v_lasts_36)), (h_starts, .inl (cI, 33, .inl v_starts_37)), (h_left, .inl (cI, 24, .inl v_left_42)), (h_right, .inl (cI, 24, .inl v_right_43)), (h_p1, .inr (6, [.ref h_p1_transcript, .ref h_p1_slots, .ref h_p1_kept, .ref h_p1_settings])), (h_p1_transcript, .inr (9, [.int v_p1_transcript_segmentCount, .int v_p1_transcript_wordCount, .ref h_p1_transcript_order, .ref h_p1_transcript_durations, .ref h_p1_transcript_pauses, .ref h_p1_transcript_sizes, .ref h_p1_transcript_words, .ref h_p1_transcript_names])), (h_p1_transcript_order, .inl (cI, 32, .inl v_p1_transcript_order)), (h_p1_transcript_durations, .inl (cI, 32, .inl v_p1_transcript_durations)), (h_p1_transcript_sizes, .inl (cI, 32, .inl v_p1_transcript_sizes)), (h_p1_transcript_words, .inl (cI, 256, .inl v_p1_transcript_words)), (h_p1_settings, .inl (cI, 6, .inl v_p1_settings))] [.ref h_p1_transcript, .int l2_25, .int (v_p1_settings (2 : Int32).toNatClampNeg)] [.int (100 : Int32), .int l2_25, .ref h_changes] (k_X0_windowLikeness l D cI cJ cZ cO z h_t_ h_left h_right h_p1_transcript h_p1_transcript_order h_p1_transcript_sizes h_p1_transcript_words h_changes h_firsts h_chapterAt h_worths h_cutCounts h_lasts h_starts h_ways h_p1_transcript_durations h_p1_transcript_pauses h_p1_transcript_names l2_25 (v_p1_settings (2 : Int32).toNatClampNeg) v_chapterCount_26 v_bestWorth_27 v_segmentCount_28 v_least_29 v_most_30 v_left_38 v_right_39 v_p1_transcript_segmentCount v_p1_transcript_wordCount v_p1_transcript_order v_p1_transcript_sizes v_p1_transcript_words r_41 v_left_42 v_right_43 hc_) gX0_update_X0_windowLikeness rfl ⟨rfl, rfl⟩ hy_X0_windowLikeness ⟨Nat.le_of_ble_eq_true rfl, Nat.le_of_ble_eq_true rfl⟩ rfl rfl rfl (q0 := 0) rfl rfl rfl (Nat.le_of_ble_eq_true rfl) rfl dX0_update_108 rfl rfl ?_
        refine gq_isub hC dX0_update_111 ?_
        obtain ⟨hi_44, hF⟩ := gi_e hF
        refine gq_iast hC 1 0 [(h_t_, .inr (0, [.int v_chapterCount_26, .int v_bestWorth_27, .ref h_changes, .ref h_firsts, .ref h_chapterAt, .ref h_worths, .ref h_cutCounts, .ref h_lasts, .ref h_starts, .ref h_ways, .ref h_left, .ref h_right, .int v_segmentCount_28, .int v_least_29, .int v_most_30])), (h_changes, .inl (cI, 31, .inl (upd v_changes_31 l2_25.toNatClampNeg ((100 : Int32) - r_41)))), (h_firsts, .inl (cI, 32, .inl v_firsts_32)), (h_chapterAt, .inl (cI, 32, .inl v_chapterAt_33)), (h_worths, .inl (cI, 32, .inl v_worths_34)), (h_cutCounts, .inl (cI, 32, .inl v_cutCounts_35)), (h_lasts, .inl (cI, 32, .inl v_lasts_36)), (h_starts, .inl (cI, 33, .inl v_starts_37)), (h_left, .inl (cI, 24, .inl v_left_42)), (h_right, .inl (cI, 24, .inl v_right_43)), (h_p1, .inr (6, [.ref h_p1_transcript, .ref h_p1_slots, .ref h_p1_kept, .ref h_p1_settings])), (h_p1_transcript, .inr (9, [.int v_p1_transcript_segmentCount, .int v_p1_transcript_wordCount, .ref h_p1_transcript_order, .ref h_p1_transcript_durations, .ref h_p1_transcript_pauses, .ref h_p1_transcript_sizes, .ref h_p1_transcript_words, .ref h_p1_transcript_names])), (h_p1_transcript_order, .inl (cI, 32, .inl v_p1_transcript_order)), (h_p1_transcript_durations, .inl (cI, 32, .inl v_p1_transcript_durations)), (h_p1_transcript_sizes, .inl (cI, 32, .inl v_p1_transcript_sizes)), (h_p1_transcript_words, .inl (cI, 256, .inl v_p1_transcript_words)), (h_p1_settings, .inl (cI, 6, .inl v_p1_settings))] rfl rfl hi_44 dX0_update_112 rfl ?_
        refine gq_iinc hC 2 (l2_25 + (1 : Int32)) [(2, .int (l2_25 + (1 : Int32))), (0, .ref h_t_), (1, .ref h_p1)] dX0_update_113 rfl rfl (by decide) rfl ?_
        refine gq_goto hC 79 dX0_update_116 (by decide) ?_
        refine gq_sub [(0, .ref h_t_), (1, .ref h_p1), (2, .int (l2_25 + (1 : Int32)))] [1, 2, 0] rfl ?_
        exact ih (l2_25 + (1 : Int32)) (upd v_changes_31 l2_25.toNatClampNeg ((100 : Int32) - r_41)) v_left_42 v_right_43 hF
  refine gq_sub [(0, .ref h_t_), (1, .ref h_p1), (2, .int (0 : Int32))] [1, 2, 0] rfl ?_
  obtain ⟨e_49, e_50, e_51, hw_, hF⟩ := ob3_e hF
  refine lp79 v_chapterCount v_bestWorth v_p1_transcript_segmentCount (v_p1_settings (0 : Int32).toNatClampNeg) (v_p1_settings (1 : Int32).toNatClampNeg) v_firsts v_chapterAt v_worths v_cutCounts v_lasts e_24 e_49 e_50 e_51 ?_ wF (0 : Int32) v_changes v_left v_right hw_
  refine gq_aload_n hC 0 dX0_update_119 rfl rfl ?_
  refine gq_iconst hC (0 : Int32) dX0_update_120 (by decide) ?_
  refine gq_put1 hC (kf := 0) 0 [(h_t_, .inr (0, [.int (0 : Int32), .int v_bestWorth, .ref h_changes, .ref h_firsts, .ref h_chapterAt, .ref h_worths, .ref h_cutCounts, .ref h_lasts, .ref h_starts, .ref h_ways, .ref h_left, .ref h_right, .int v_p1_transcript_segmentCount, .int (v_p1_settings (0 : Int32).toNatClampNeg), .int (v_p1_settings (1 : Int32).toNatClampNeg)])), (h_changes, .inl (cI, 31, .inl e_49)), (h_firsts, .inl (cI, 32, .inl v_firsts)), (h_chapterAt, .inl (cI, 32, .inl v_chapterAt)), (h_worths, .inl (cI, 32, .inl v_worths)), (h_cutCounts, .inl (cI, 32, .inl v_cutCounts)), (h_lasts, .inl (cI, 32, .inl v_lasts)), (h_starts, .inl (cI, 33, .inl e_24)), (h_left, .inl (cI, 24, .inl e_50)), (h_right, .inl (cI, 24, .inl e_51)), (h_p1, .inr (6, [.ref h_p1_transcript, .ref h_p1_slots, .ref h_p1_kept, .ref h_p1_settings])), (h_p1_transcript, .inr (9, [.int v_p1_transcript_segmentCount, .int v_p1_transcript_wordCount, .ref h_p1_transcript_order, .ref h_p1_transcript_durations, .ref h_p1_transcript_pauses, .ref h_p1_transcript_sizes, .ref h_p1_transcript_words, .ref h_p1_transcript_names])), (h_p1_transcript_order, .inl (cI, 32, .inl v_p1_transcript_order)), (h_p1_transcript_durations, .inl (cI, 32, .inl v_p1_transcript_durations)), (h_p1_transcript_sizes, .inl (cI, 32, .inl v_p1_transcript_sizes)), (h_p1_transcript_words, .inl (cI, 256, .inl v_p1_transcript_words)), (h_p1_settings, .inl (cI, 6, .inl v_p1_settings))] tyX0 tyX0_ok nmX0 hin_X0 rfl rfl (by decide) hw_73 rfl rfl rfl (Nat.le_of_ble_eq_true rfl) dX0_update_121 rfl ?_
  refine gq_aload_n hC 0 dX0_update_124 rfl rfl ?_
  refine gq_aload_n hC 1 dX0_update_125 rfl rfl ?_
  refine gq_get hC (kf := 3) 10 hin_X6 rfl rfl (by decide) hw_56 rfl dX0_update_126 ?_
  refine gq_iconst hC (3 : Int32) dX0_update_129 (by decide) ?_
  obtain ⟨hi_52, hF⟩ := gi_e hF
  refine gq_iald hC 16 0 rfl rfl hi_52 dX0_update_130 ?_
  refine gq_iconst hC (-1 : Int32) dX0_update_131 (by decide) ?_
  refine gq_iconst hC (-1 : Int32) dX0_update_132 (by decide) ?_
  obtain ⟨r_53, v_worths_54, v_cutCounts_55, v_lasts_56, hc_, hF⟩ := ob4_e hF
  refine gq_callVi hC [0, 1, 4, 5, 6, 7] [(h_t_, .inr (0, [.int (0 : Int32), .int v_bestWorth, .ref h_changes, .ref h_firsts, .ref h_chapterAt, .ref h_worths, .ref h_cutCounts, .ref h_lasts, .ref h_starts, .ref h_ways, .ref h_left, .ref h_right, .int v_p1_transcript_segmentCount, .int (v_p1_settings (0 : Int32).toNatClampNeg), .int (v_p1_settings (1 : Int32).toNatClampNeg)])), (h_changes, .inl (cI, 31, .inl e_49)), (h_firsts, .inl (cI, 32, .inl v_firsts)), (h_chapterAt, .inl (cI, 32, .inl v_chapterAt)), (h_worths, .inl (cI, 32, .inl v_worths_54)), (h_cutCounts, .inl (cI, 32, .inl v_cutCounts_55)), (h_lasts, .inl (cI, 32, .inl v_lasts_56)), (h_starts, .inl (cI, 33, .inl e_24)), (h_left, .inl (cI, 24, .inl e_50)), (h_right, .inl (cI, 24, .inl e_51)), (h_p1, .inr (6, [.ref h_p1_transcript, .ref h_p1_slots, .ref h_p1_kept, .ref h_p1_settings])), (h_p1_transcript, .inr (9, [.int v_p1_transcript_segmentCount, .int v_p1_transcript_wordCount, .ref h_p1_transcript_order, .ref h_p1_transcript_durations, .ref h_p1_transcript_pauses, .ref h_p1_transcript_sizes, .ref h_p1_transcript_words, .ref h_p1_transcript_names])), (h_p1_transcript_order, .inl (cI, 32, .inl v_p1_transcript_order)), (h_p1_transcript_durations, .inl (cI, 32, .inl v_p1_transcript_durations)), (h_p1_transcript_sizes, .inl (cI, 32, .inl v_p1_transcript_sizes)), (h_p1_transcript_words, .inl (cI, 256, .inl v_p1_transcript_words)), (h_p1_settings, .inl (cI, 6, .inl v_p1_settings))] [.int (v_p1_settings (3 : Int32).toNatClampNeg), .int (-1 : Int32), .int (-1 : Int32)] [] (k_X0_solve l D cI cJ cZ cO z h_t_ h_changes h_worths h_cutCounts h_lasts h_starts h_firsts h_chapterAt h_ways h_left h_right (v_p1_settings (3 : Int32).toNatClampNeg) (-1 : Int32) (-1 : Int32) (0 : Int32) v_bestWorth v_p1_transcript_segmentCount (v_p1_settings (0 : Int32).toNatClampNeg) (v_p1_settings (1 : Int32).toNatClampNeg) e_49 v_worths v_cutCounts v_lasts e_24 r_53 v_worths_54 v_cutCounts_55 v_lasts_56 hc_) gX0_update_X0_solve rfl ⟨rfl, rfl⟩ hy_X0_solve ⟨Nat.le_of_ble_eq_true rfl, Nat.le_of_ble_eq_true rfl⟩ rfl rfl rfl (q0 := 0) rfl rfl rfl (Nat.le_of_ble_eq_true rfl) rfl dX0_update_133 rfl rfl ?_
  refine gq_if_eq hC 143 dX0_update_136 (by decide) (fun hc_61 => ?_) (fun hc_61 => ?_)
  · have hF := (if_pos hc_61).symm.trans hF
    cases hF
    rw [hQ]
    exact gq_vret hC dX0_update_143
  · have hF := (if_neg hc_61).symm.trans hF
    refine gq_aload_n hC 0 dX0_update_139 rfl rfl ?_
    obtain ⟨v_chapterCount_57, v_bestWorth_58, v_firsts_59, v_chapterAt_60, hc_, hF⟩ := ob4_e hF
    refine gq_callVv hC [0, 2, 3, 4, 6] [(h_t_, .inr (0, [.int v_chapterCount_57, .int v_bestWorth_58, .ref h_changes, .ref h_firsts, .ref h_chapterAt, .ref h_worths, .ref h_cutCounts, .ref h_lasts, .ref h_starts, .ref h_ways, .ref h_left, .ref h_right, .int v_p1_transcript_segmentCount, .int (v_p1_settings (0 : Int32).toNatClampNeg), .int (v_p1_settings (1 : Int32).toNatClampNeg)])), (h_changes, .inl (cI, 31, .inl e_49)), (h_firsts, .inl (cI, 32, .inl v_firsts_59)), (h_chapterAt, .inl (cI, 32, .inl v_chapterAt_60)), (h_worths, .inl (cI, 32, .inl v_worths_54)), (h_cutCounts, .inl (cI, 32, .inl v_cutCounts_55)), (h_lasts, .inl (cI, 32, .inl v_lasts_56)), (h_starts, .inl (cI, 33, .inl e_24)), (h_left, .inl (cI, 24, .inl e_50)), (h_right, .inl (cI, 24, .inl e_51)), (h_p1, .inr (6, [.ref h_p1_transcript, .ref h_p1_slots, .ref h_p1_kept, .ref h_p1_settings])), (h_p1_transcript, .inr (9, [.int v_p1_transcript_segmentCount, .int v_p1_transcript_wordCount, .ref h_p1_transcript_order, .ref h_p1_transcript_durations, .ref h_p1_transcript_pauses, .ref h_p1_transcript_sizes, .ref h_p1_transcript_words, .ref h_p1_transcript_names])), (h_p1_transcript_order, .inl (cI, 32, .inl v_p1_transcript_order)), (h_p1_transcript_durations, .inl (cI, 32, .inl v_p1_transcript_durations)), (h_p1_transcript_sizes, .inl (cI, 32, .inl v_p1_transcript_sizes)), (h_p1_transcript_words, .inl (cI, 256, .inl v_p1_transcript_words)), (h_p1_settings, .inl (cI, 6, .inl v_p1_settings))] [] [] (k_X0_takeBest l D cI cJ cZ cO z h_t_ h_firsts h_chapterAt h_worths h_lasts h_changes h_cutCounts h_starts h_ways h_left h_right (0 : Int32) v_bestWorth v_p1_transcript_segmentCount (v_p1_settings (0 : Int32).toNatClampNeg) (v_p1_settings (1 : Int32).toNatClampNeg) v_firsts v_chapterAt v_worths_54 v_lasts_56 v_chapterCount_57 v_bestWorth_58 v_firsts_59 v_chapterAt_60 hc_) gX0_update_X0_takeBest rfl ⟨rfl, rfl⟩ hy_X0_takeBest ⟨Nat.le_of_ble_eq_true rfl, Nat.le_of_ble_eq_true rfl⟩ rfl rfl rfl (q0 := 0) rfl rfl rfl (Nat.le_of_ble_eq_true rfl) rfl dX0_update_140 rfl rfl ?_
    cases hF
    rw [hQ]
    exact gq_vret hC dX0_update_143
theorem hy_X0_lastOf : yX0_lastOf.cls = RX0 ∧ yX0_lastOf.cls ≠ "java/lang/invoke/MethodHandle" ∧ yX0_lastOf.cls ≠ "java/lang/invoke/VarHandle" ∧ (parseMethodDescriptor yX0_lastOf.desc).map (fun d => d.parameters.length) = some 1 := by decide +kernel
set_option maxRecDepth 20000 in
set_option maxHeartbeats 4000000 in
theorem k_X0_lastOf (l : Launch) (D : va_G) (cI cJ cZ cO : ClassId) (z : Nat → Nat)   (h_t_ : Nat) (h_firsts : Nat) (h_changes : Nat) (h_chapterAt : Nat) (h_worths : Nat) (h_cutCounts : Nat) (h_lasts : Nat) (h_starts : Nat) (h_ways : Nat) (h_left : Nat) (h_right : Nat) (x1 : Int32) (v_chapterCount : Int32) (v_bestWorth : Int32) (v_segmentCount : Int32) (v_least : Int32) (v_most : Int32) (v_firsts : Nat → Int32) (r_ : Int32) (hF : F_X0_lastOf x1 v_chapterCount v_segmentCount v_firsts = some r_) : Mi l yX0_lastOf wsX0_lastOf (rmD 0) D (gq_ty cI cJ cZ cO) z [.ref h_t_, .int x1] [(h_t_, .inr (0, [.int v_chapterCount, .int v_bestWorth, .ref h_changes, .ref h_firsts, .ref h_chapterAt, .ref h_worths, .ref h_cutCounts, .ref h_lasts, .ref h_starts, .ref h_ways, .ref h_left, .ref h_right, .int v_segmentCount, .int v_least, .int v_most])), (h_firsts, .inl (cI, 32, .inl v_firsts))] r_ [(h_t_, .inr (0, [.int v_chapterCount, .int v_bestWorth, .ref h_changes, .ref h_firsts, .ref h_chapterAt, .ref h_worths, .ref h_cutCounts, .ref h_lasts, .ref h_starts, .ref h_ways, .ref h_left, .ref h_right, .int v_segmentCount, .int v_least, .int v_most])), (h_firsts, .inl (cI, 32, .inl v_firsts))] 0 0 := by
  refine Mi.of (cc := cX0_lastOf) (maxL := 2) (by decide) rfl (Nat.le_of_ble_eq_true rfl) ⟨Nat.le_refl 0, Nat.le_refl 0⟩ ?_
  intro p e s m args below meth c A hC ha
  have hin_X0 : ∀ w ∈ wsX00, w ∈ wsX0_lastOf := by decide +kernel
  have hw_15 : Cond.fieldLink RX0 15 (TX0 3).1 (TX0 3).2.1 (TX0 3).2.2.1 ∈ wsX0_lastOf := by decide +kernel
  have hw_55 : Cond.fieldLink RX0 55 (TX0 12).1 (TX0 12).2.1 (TX0 12).2.2.1 ∈ wsX0_lastOf := by decide +kernel
  have hw_73 : Cond.fieldLink RX0 73 (TX0 0).1 (TX0 0).2.1 (TX0 0).2.2.1 ∈ wsX0_lastOf := by decide +kernel
  obtain ⟨Q, hQ⟩ : ∃ Q, Q = gq_Qi below D A args s r_ [(h_t_, .inr (0, [.int v_chapterCount, .int v_bestWorth, .ref h_changes, .ref h_firsts, .ref h_chapterAt, .ref h_worths, .ref h_cutCounts, .ref h_lasts, .ref h_starts, .ref h_ways, .ref h_left, .ref h_right, .int v_segmentCount, .int v_least, .int v_most])), (h_firsts, .inl (cI, 32, .inl v_firsts))] 0 0 := ⟨_, rfl⟩
  rw [← hQ]
  refine gq_loc [(0, .ref h_t_), (1, .int x1)] rfl ?_
  unfold F_X0_lastOf at hF
  refine gq_iload_n hC 1 dX0_lastOf_0 rfl rfl ?_
  refine gq_iconst hC (1 : Int32) dX0_lastOf_1 (by decide) ?_
  refine gq_iadd hC dX0_lastOf_2 ?_
  refine gq_aload_n hC 0 dX0_lastOf_3 rfl rfl ?_
  refine gq_get hC (kf := 0) 0 hin_X0 rfl rfl (by decide) hw_73 rfl dX0_lastOf_4 ?_
  refine gq_icmp_ge hC 23 dX0_lastOf_7 (by decide) (fun hc_2 => ?_) (fun hc_2 => ?_)
  · have hF := (if_pos hc_2).symm.trans hF
    refine gq_aload_n hC 0 dX0_lastOf_23 rfl rfl ?_
    refine gq_get hC (kf := 12) 0 hin_X0 rfl rfl (by decide) hw_55 rfl dX0_lastOf_24 ?_
    refine gq_iconst hC (1 : Int32) dX0_lastOf_27 (by decide) ?_
    refine gq_isub hC dX0_lastOf_28 ?_
    cases hF
    rw [hQ]
    exact gq_iret hC rfl dX0_lastOf_29
  · have hF := (if_neg hc_2).symm.trans hF
    refine gq_aload_n hC 0 dX0_lastOf_10 rfl rfl ?_
    refine gq_get hC (kf := 3) 0 hin_X0 rfl rfl (by decide) hw_15 rfl dX0_lastOf_11 ?_
    refine gq_iload_n hC 1 dX0_lastOf_14 rfl rfl ?_
    refine gq_iconst hC (1 : Int32) dX0_lastOf_15 (by decide) ?_
    refine gq_iadd hC dX0_lastOf_16 ?_
    obtain ⟨hi_1, hF⟩ := gi_e hF
    refine gq_iald hC 1 0 rfl rfl hi_1 dX0_lastOf_17 ?_
    refine gq_iconst hC (1 : Int32) dX0_lastOf_18 (by decide) ?_
    refine gq_isub hC dX0_lastOf_19 ?_
    refine gq_goto hC 29 dX0_lastOf_20 (by decide) ?_
    cases hF
    rw [hQ]
    exact gq_iret hC rfl dX0_lastOf_29
theorem hy_X0_isCut : yX0_isCut.cls = RX0 ∧ yX0_isCut.cls ≠ "java/lang/invoke/MethodHandle" ∧ yX0_isCut.cls ≠ "java/lang/invoke/VarHandle" ∧ (parseMethodDescriptor yX0_isCut.desc).map (fun d => d.parameters.length) = some 1 := by decide +kernel
set_option maxRecDepth 20000 in
set_option maxHeartbeats 4000000 in
theorem k_X0_isCut (l : Launch) (D : va_G) (cI cJ cZ cO : ClassId) (z : Nat → Nat)   (h_t_ : Nat) (h_chapterAt : Nat) (h_changes : Nat) (h_firsts : Nat) (h_worths : Nat) (h_cutCounts : Nat) (h_lasts : Nat) (h_starts : Nat) (h_ways : Nat) (h_left : Nat) (h_right : Nat) (x1 : Int32) (v_chapterCount : Int32) (v_bestWorth : Int32) (v_segmentCount : Int32) (v_least : Int32) (v_most : Int32) (v_chapterAt : Nat → Int32) (r_ : Int32) (hF : F_X0_isCut x1 v_chapterCount v_chapterAt = some r_) : Mi l yX0_isCut wsX0_isCut (rmD 0) D (gq_ty cI cJ cZ cO) z [.ref h_t_, .int x1] [(h_t_, .inr (0, [.int v_chapterCount, .int v_bestWorth, .ref h_changes, .ref h_firsts, .ref h_chapterAt, .ref h_worths, .ref h_cutCounts, .ref h_lasts, .ref h_starts, .ref h_ways, .ref h_left, .ref h_right, .int v_segmentCount, .int v_least, .int v_most])), (h_chapterAt, .inl (cI, 32, .inl v_chapterAt))] r_ [(h_t_, .inr (0, [.int v_chapterCount, .int v_bestWorth, .ref h_changes, .ref h_firsts, .ref h_chapterAt, .ref h_worths, .ref h_cutCounts, .ref h_lasts, .ref h_starts, .ref h_ways, .ref h_left, .ref h_right, .int v_segmentCount, .int v_least, .int v_most])), (h_chapterAt, .inl (cI, 32, .inl v_chapterAt))] 0 0 := by
  refine Mi.of (cc := cX0_isCut) (maxL := 2) (by decide) rfl (Nat.le_of_ble_eq_true rfl) ⟨Nat.le_refl 0, Nat.le_refl 0⟩ ?_
  intro p e s m args below meth c A hC ha
  have hin_X0 : ∀ w ∈ wsX00, w ∈ wsX0_isCut := by decide +kernel
  have hw_18 : Cond.fieldLink RX0 18 (TX0 4).1 (TX0 4).2.1 (TX0 4).2.2.1 ∈ wsX0_isCut := by decide +kernel
  have hw_73 : Cond.fieldLink RX0 73 (TX0 0).1 (TX0 0).2.1 (TX0 0).2.2.1 ∈ wsX0_isCut := by decide +kernel
  obtain ⟨Q, hQ⟩ : ∃ Q, Q = gq_Qi below D A args s r_ [(h_t_, .inr (0, [.int v_chapterCount, .int v_bestWorth, .ref h_changes, .ref h_firsts, .ref h_chapterAt, .ref h_worths, .ref h_cutCounts, .ref h_lasts, .ref h_starts, .ref h_ways, .ref h_left, .ref h_right, .int v_segmentCount, .int v_least, .int v_most])), (h_chapterAt, .inl (cI, 32, .inl v_chapterAt))] 0 0 := ⟨_, rfl⟩
  rw [← hQ]
  refine gq_loc [(0, .ref h_t_), (1, .int x1)] rfl ?_
  unfold F_X0_isCut at hF
  refine gq_aload_n hC 0 dX0_isCut_0 rfl rfl ?_
  refine gq_get hC (kf := 0) 0 hin_X0 rfl rfl (by decide) hw_73 rfl dX0_isCut_1 ?_
  refine gq_if_le hC 28 dX0_isCut_4 (by decide) (fun hc_4 => ?_) (fun hc_4 => ?_)
  · have hF := (if_pos hc_4).symm.trans hF
    refine gq_iconst hC (0 : Int32) dX0_isCut_28 (by decide) ?_
    cases hF
    rw [hQ]
    exact gq_iret hC rfl dX0_isCut_29
  · have hF := (if_neg hc_4).symm.trans hF
    refine gq_aload_n hC 0 dX0_isCut_7 rfl rfl ?_
    refine gq_get hC (kf := 4) 0 hin_X0 rfl rfl (by decide) hw_18 rfl dX0_isCut_8 ?_
    refine gq_iload_n hC 1 dX0_isCut_11 rfl rfl ?_
    obtain ⟨hi_1, hF⟩ := gi_e hF
    refine gq_iald hC 1 0 rfl rfl hi_1 dX0_isCut_12 ?_
    refine gq_aload_n hC 0 dX0_isCut_13 rfl rfl ?_
    refine gq_get hC (kf := 4) 0 hin_X0 rfl rfl (by decide) hw_18 rfl dX0_isCut_14 ?_
    refine gq_iload_n hC 1 dX0_isCut_17 rfl rfl ?_
    refine gq_iconst hC (1 : Int32) dX0_isCut_18 (by decide) ?_
    refine gq_iadd hC dX0_isCut_19 ?_
    obtain ⟨hi_2, hF⟩ := gi_e hF
    refine gq_iald hC 1 0 rfl rfl hi_2 dX0_isCut_20 ?_
    refine gq_icmp_eq hC 28 dX0_isCut_21 (by decide) (fun hc_3 => ?_) (fun hc_3 => ?_)
    · have hF := (if_pos hc_3).symm.trans hF
      refine gq_iconst hC (0 : Int32) dX0_isCut_28 (by decide) ?_
      cases hF
      rw [hQ]
      exact gq_iret hC rfl dX0_isCut_29
    · have hF := (if_neg hc_3).symm.trans hF
      refine gq_iconst hC (1 : Int32) dX0_isCut_24 (by decide) ?_
      refine gq_goto hC 29 dX0_isCut_25 (by decide) ?_
      cases hF
      rw [hQ]
      exact gq_iret hC rfl dX0_isCut_29
theorem hy_X0_timeOf : yX0_timeOf.cls = RX0 ∧ yX0_timeOf.cls ≠ "java/lang/invoke/MethodHandle" ∧ yX0_timeOf.cls ≠ "java/lang/invoke/VarHandle" ∧ (parseMethodDescriptor yX0_timeOf.desc).map (fun d => d.parameters.length) = some 1 := by decide +kernel
set_option maxRecDepth 20000 in
set_option maxHeartbeats 4000000 in
theorem k_X0_timeOf (l : Launch) (D : va_G) (cI cJ cZ cO : ClassId) (z : Nat → Nat)   (h_t_ : Nat) (h_starts : Nat) (h_changes : Nat) (h_firsts : Nat) (h_chapterAt : Nat) (h_worths : Nat) (h_cutCounts : Nat) (h_lasts : Nat) (h_ways : Nat) (h_left : Nat) (h_right : Nat) (x1 : Int32) (v_chapterCount : Int32) (v_bestWorth : Int32) (v_segmentCount : Int32) (v_least : Int32) (v_most : Int32) (v_starts : Nat → Int32) (r_ : Int32) (hF : F_X0_timeOf x1 v_starts = some r_) : Mi l yX0_timeOf wsX0_timeOf (rmD 0) D (gq_ty cI cJ cZ cO) z [.ref h_t_, .int x1] [(h_t_, .inr (0, [.int v_chapterCount, .int v_bestWorth, .ref h_changes, .ref h_firsts, .ref h_chapterAt, .ref h_worths, .ref h_cutCounts, .ref h_lasts, .ref h_starts, .ref h_ways, .ref h_left, .ref h_right, .int v_segmentCount, .int v_least, .int v_most])), (h_starts, .inl (cI, 33, .inl v_starts))] r_ [(h_t_, .inr (0, [.int v_chapterCount, .int v_bestWorth, .ref h_changes, .ref h_firsts, .ref h_chapterAt, .ref h_worths, .ref h_cutCounts, .ref h_lasts, .ref h_starts, .ref h_ways, .ref h_left, .ref h_right, .int v_segmentCount, .int v_least, .int v_most])), (h_starts, .inl (cI, 33, .inl v_starts))] 0 0 := by
  refine Mi.of (cc := cX0_timeOf) (maxL := 2) (by decide) rfl (Nat.le_of_ble_eq_true rfl) ⟨Nat.le_refl 0, Nat.le_refl 0⟩ ?_
  intro p e s m args below meth c A hC ha
  have hin_X0 : ∀ w ∈ wsX00, w ∈ wsX0_timeOf := by decide +kernel
  have hw_30 : Cond.fieldLink RX0 30 (TX0 8).1 (TX0 8).2.1 (TX0 8).2.2.1 ∈ wsX0_timeOf := by decide +kernel
  obtain ⟨Q, hQ⟩ : ∃ Q, Q = gq_Qi below D A args s r_ [(h_t_, .inr (0, [.int v_chapterCount, .int v_bestWorth, .ref h_changes, .ref h_firsts, .ref h_chapterAt, .ref h_worths, .ref h_cutCounts, .ref h_lasts, .ref h_starts, .ref h_ways, .ref h_left, .ref h_right, .int v_segmentCount, .int v_least, .int v_most])), (h_starts, .inl (cI, 33, .inl v_starts))] 0 0 := ⟨_, rfl⟩
  rw [← hQ]
  refine gq_loc [(0, .ref h_t_), (1, .int x1)] rfl ?_
  unfold F_X0_timeOf at hF
  refine gq_aload_n hC 0 dX0_timeOf_0 rfl rfl ?_
  refine gq_get hC (kf := 8) 0 hin_X0 rfl rfl (by decide) hw_30 rfl dX0_timeOf_1 ?_
  refine gq_iload_n hC 1 dX0_timeOf_4 rfl rfl ?_
  refine gq_iconst hC (1 : Int32) dX0_timeOf_5 (by decide) ?_
  refine gq_iadd hC dX0_timeOf_6 ?_
  obtain ⟨hi_1, hF⟩ := gi_e hF
  refine gq_iald hC 1 0 rfl rfl hi_1 dX0_timeOf_7 ?_
  cases hF
  rw [hQ]
  exact gq_iret hC rfl dX0_timeOf_8
theorem hy_X0_worthOfCuts : yX0_worthOfCuts.cls = RX0 ∧ yX0_worthOfCuts.cls ≠ "java/lang/invoke/MethodHandle" ∧ yX0_worthOfCuts.cls ≠ "java/lang/invoke/VarHandle" ∧ (parseMethodDescriptor yX0_worthOfCuts.desc).map (fun d => d.parameters.length) = some 2 := by decide +kernel
set_option maxRecDepth 20000 in
set_option maxHeartbeats 4000000 in
theorem k_X0_worthOfCuts (l : Launch) (D : va_G) (cI cJ cZ cO : ClassId) (z : Nat → Nat)   (h_t_ : Nat) (h_changes : Nat) (h_firsts : Nat) (h_chapterAt : Nat) (h_worths : Nat) (h_cutCounts : Nat) (h_lasts : Nat) (h_starts : Nat) (h_ways : Nat) (h_left : Nat) (h_right : Nat) (x1 : Int32) (x2 : Int32) (v_chapterCount : Int32) (v_bestWorth : Int32) (v_segmentCount : Int32) (v_least : Int32) (v_most : Int32) (v_changes : Nat → Int32) (r_ : Int32) (hF : F_X0_worthOfCuts x1 x2 v_segmentCount v_changes = some r_) : Mi l yX0_worthOfCuts wsX0_worthOfCuts (rmD 0) D (gq_ty cI cJ cZ cO) z [.ref h_t_, .int x1, .int x2] [(h_t_, .inr (0, [.int v_chapterCount, .int v_bestWorth, .ref h_changes, .ref h_firsts, .ref h_chapterAt, .ref h_worths, .ref h_cutCounts, .ref h_lasts, .ref h_starts, .ref h_ways, .ref h_left, .ref h_right, .int v_segmentCount, .int v_least, .int v_most])), (h_changes, .inl (cI, 31, .inl v_changes))] r_ [(h_t_, .inr (0, [.int v_chapterCount, .int v_bestWorth, .ref h_changes, .ref h_firsts, .ref h_chapterAt, .ref h_worths, .ref h_cutCounts, .ref h_lasts, .ref h_starts, .ref h_ways, .ref h_left, .ref h_right, .int v_segmentCount, .int v_least, .int v_most])), (h_changes, .inl (cI, 31, .inl v_changes))] 0 0 := by
  refine Mi.of (cc := cX0_worthOfCuts) (maxL := 5) (by decide) rfl (Nat.le_of_ble_eq_true rfl) ⟨Nat.le_refl 0, Nat.le_refl 0⟩ ?_
  intro p e s m args below meth c A hC ha
  have hin_X0 : ∀ w ∈ wsX00, w ∈ wsX0_worthOfCuts := by decide +kernel
  have hw_9 : Cond.fieldLink RX0 9 (TX0 2).1 (TX0 2).2.1 (TX0 2).2.2.1 ∈ wsX0_worthOfCuts := by decide +kernel
  have hw_55 : Cond.fieldLink RX0 55 (TX0 12).1 (TX0 12).2.1 (TX0 12).2.2.1 ∈ wsX0_worthOfCuts := by decide +kernel
  obtain ⟨Q, hQ⟩ : ∃ Q, Q = gq_Qi below D A args s r_ [(h_t_, .inr (0, [.int v_chapterCount, .int v_bestWorth, .ref h_changes, .ref h_firsts, .ref h_chapterAt, .ref h_worths, .ref h_cutCounts, .ref h_lasts, .ref h_starts, .ref h_ways, .ref h_left, .ref h_right, .int v_segmentCount, .int v_least, .int v_most])), (h_changes, .inl (cI, 31, .inl v_changes))] 0 0 := ⟨_, rfl⟩
  rw [← hQ]
  refine gq_loc [(0, .ref h_t_), (1, .int x1), (2, .int x2)] rfl ?_
  unfold F_X0_worthOfCuts at hF
  refine gq_iconst hC (0 : Int32) dX0_worthOfCuts_0 (by decide) ?_
  refine gq_istore_n hC [(3, .int (0 : Int32)), (0, .ref h_t_), (1, .int x1), (2, .int x2)] dX0_worthOfCuts_1 rfl (by decide) rfl ?_
  refine gq_iconst hC (0 : Int32) dX0_worthOfCuts_2 (by decide) ?_
  refine gq_istore hC [(4, .int (0 : Int32)), (3, .int (0 : Int32)), (0, .ref h_t_), (1, .int x1), (2, .int x2)] dX0_worthOfCuts_3 (by decide) rfl ?_
  have lp5 : ∀ (e_6 : Int32), Gx p l e (rmD 0) s m args below meth c D A 5 Q 0 0 44 [(3, .int e_6)] [] [(h_t_, .inr (0, [.int v_chapterCount, .int v_bestWorth, .ref h_changes, .ref h_firsts, .ref h_chapterAt, .ref h_worths, .ref h_cutCounts, .ref h_lasts, .ref h_starts, .ref h_ways, .ref h_left, .ref h_right, .int v_segmentCount, .int v_least, .int v_most])), (h_changes, .inl (cI, 31, .inl v_changes))] → ∀ (N : Nat) (l3_1 : Int32) (l4_2 : Int32), wh (fun k q => S_X0_worthOfCuts_5 x1 x2 v_segmentCount v_changes k q.1 q.2) N (l3_1, l4_2) = some e_6 → Gx p l e (rmD 0) s m args below meth c D A 5 Q 0 0 5 [(0, .ref h_t_), (1, .int x1), (2, .int x2), (3, .int l3_1), (4, .int l4_2)] [] [(h_t_, .inr (0, [.int v_chapterCount, .int v_bestWorth, .ref h_changes, .ref h_firsts, .ref h_chapterAt, .ref h_worths, .ref h_cutCounts, .ref h_lasts, .ref h_starts, .ref h_ways, .ref h_left, .ref h_right, .int v_segmentCount, .int v_least, .int v_most])), (h_changes, .inl (cI, 31, .inl v_changes))] := by
    intro e_6 hx0 N
    induction N with
    | zero => intro l3_1 l4_2 hw; exact absurd hw (wh_0 _ _ _)
    | succ N ih =>
      intro l3_1 l4_2 hw
      have hF : S_X0_worthOfCuts_5 x1 x2 v_segmentCount v_changes (wh (fun k q => S_X0_worthOfCuts_5 x1 x2 v_segmentCount v_changes k q.1 q.2) N) l3_1 l4_2 = some e_6 := hw
      unfold S_X0_worthOfCuts_5 at hF
      refine gq_iload hC 4 dX0_worthOfCuts_5 rfl ?_
      refine gq_aload_n hC 0 dX0_worthOfCuts_7 rfl rfl ?_
      refine gq_get hC (kf := 12) 0 hin_X0 rfl rfl (by decide) hw_55 rfl dX0_worthOfCuts_8 ?_
      refine gq_iconst hC (1 : Int32) dX0_worthOfCuts_11 (by decide) ?_
      refine gq_isub hC dX0_worthOfCuts_12 ?_
      refine gq_icmp_ge hC 44 dX0_worthOfCuts_13 (by decide) (fun hc_5 => ?_) (fun hc_5 => ?_)
      · have hF := (if_pos hc_5).symm.trans hF
        refine gq_sub [(3, .int l3_1)] [3] rfl ?_
        cases hF
        exact hx0
      · have hF := (if_neg hc_5).symm.trans hF
        refine gq_iload_n hC 1 dX0_worthOfCuts_16 rfl rfl ?_
        refine gq_iload hC 4 dX0_worthOfCuts_17 rfl ?_
        refine gq_iushr hC dX0_worthOfCuts_19 ?_
        refine gq_iconst hC (1 : Int32) dX0_worthOfCuts_20 (by decide) ?_
        refine gq_iand hC dX0_worthOfCuts_21 ?_
        refine gq_iconst hC (1 : Int32) dX0_worthOfCuts_22 (by decide) ?_
        refine gq_icmp_ne hC 38 dX0_worthOfCuts_23 (by decide) (fun hc_4 => ?_) (fun hc_4 => ?_)
        · have hF := (if_neg hc_4).symm.trans hF
          refine gq_iinc hC 4 (l4_2 + (1 : Int32)) [(4, .int (l4_2 + (1 : Int32))), (0, .ref h_t_), (1, .int x1), (2, .int x2), (3, .int l3_1)] dX0_worthOfCuts_38 rfl rfl (by decide) rfl ?_
          refine gq_goto hC 5 dX0_worthOfCuts_41 (by decide) ?_
          refine gq_sub [(0, .ref h_t_), (1, .int x1), (2, .int x2), (3, .int l3_1), (4, .int (l4_2 + (1 : Int32)))] [1, 2, 3, 4, 0] rfl ?_
          exact ih l3_1 (l4_2 + (1 : Int32)) hF
        · have hF := (if_pos hc_4).symm.trans hF
          refine gq_iload_n hC 3 dX0_worthOfCuts_26 rfl rfl ?_
          refine gq_aload_n hC 0 dX0_worthOfCuts_27 rfl rfl ?_
          refine gq_get hC (kf := 2) 0 hin_X0 rfl rfl (by decide) hw_9 rfl dX0_worthOfCuts_28 ?_
          refine gq_iload hC 4 dX0_worthOfCuts_31 rfl ?_
          obtain ⟨hi_3, hF⟩ := gi_e hF
          refine gq_iald hC 1 0 rfl rfl hi_3 dX0_worthOfCuts_33 ?_
          refine gq_iload_n hC 2 dX0_worthOfCuts_34 rfl rfl ?_
          refine gq_isub hC dX0_worthOfCuts_35 ?_
          refine gq_iadd hC dX0_worthOfCuts_36 ?_
          refine gq_istore_n hC [(3, .int (l3_1 + ((v_changes l4_2.toNatClampNeg) - x2))), (0, .ref h_t_), (1, .int x1), (2, .int x2), (4, .int l4_2)] dX0_worthOfCuts_37 rfl (by decide) rfl ?_
          refine gq_iinc hC 4 (l4_2 + (1 : Int32)) [(4, .int (l4_2 + (1 : Int32))), (3, .int (l3_1 + ((v_changes l4_2.toNatClampNeg) - x2))), (0, .ref h_t_), (1, .int x1), (2, .int x2)] dX0_worthOfCuts_38 rfl rfl (by decide) rfl ?_
          refine gq_goto hC 5 dX0_worthOfCuts_41 (by decide) ?_
          refine gq_sub [(0, .ref h_t_), (1, .int x1), (2, .int x2), (3, .int (l3_1 + ((v_changes l4_2.toNatClampNeg) - x2))), (4, .int (l4_2 + (1 : Int32)))] [2, 3, 4, 1, 0] rfl ?_
          exact ih (l3_1 + ((v_changes l4_2.toNatClampNeg) - x2)) (l4_2 + (1 : Int32)) hF
  refine gq_sub [(0, .ref h_t_), (1, .int x1), (2, .int x2), (3, .int (0 : Int32)), (4, .int (0 : Int32))] [2, 3, 4, 1, 0] rfl ?_
  obtain ⟨e_7, hw_, hF⟩ := ob1_e hF
  refine lp5  e_7 ?_ wF (0 : Int32) (0 : Int32) hw_
  refine gq_iload_n hC 0 dX0_worthOfCuts_44 rfl rfl ?_
  cases hF
  rw [hQ]
  exact gq_iret hC rfl dX0_worthOfCuts_45
theorem hy_X0_allows : yX0_allows.cls = RX0 ∧ yX0_allows.cls ≠ "java/lang/invoke/MethodHandle" ∧ yX0_allows.cls ≠ "java/lang/invoke/VarHandle" ∧ (parseMethodDescriptor yX0_allows.desc).map (fun d => d.parameters.length) = some 1 := by decide +kernel
set_option maxRecDepth 20000 in
set_option maxHeartbeats 4000000 in
theorem k_X0_allows (l : Launch) (D : va_G) (cI cJ cZ cO : ClassId) (z : Nat → Nat)   (h_t_ : Nat) (h_starts : Nat) (h_changes : Nat) (h_firsts : Nat) (h_chapterAt : Nat) (h_worths : Nat) (h_cutCounts : Nat) (h_lasts : Nat) (h_ways : Nat) (h_left : Nat) (h_right : Nat) (x1 : Int32) (v_chapterCount : Int32) (v_bestWorth : Int32) (v_segmentCount : Int32) (v_least : Int32) (v_most : Int32) (v_starts : Nat → Int32) (r_ : Int32) (hF : F_X0_allows x1 v_segmentCount v_least v_most v_starts = some r_) : Mi l yX0_allows wsX0_allows (rmD 2) D (gq_ty cI cJ cZ cO) z [.ref h_t_, .int x1] [(h_t_, .inr (0, [.int v_chapterCount, .int v_bestWorth, .ref h_changes, .ref h_firsts, .ref h_chapterAt, .ref h_worths, .ref h_cutCounts, .ref h_lasts, .ref h_starts, .ref h_ways, .ref h_left, .ref h_right, .int v_segmentCount, .int v_least, .int v_most])), (h_starts, .inl (cI, 33, .inl v_starts))] r_ [(h_t_, .inr (0, [.int v_chapterCount, .int v_bestWorth, .ref h_changes, .ref h_firsts, .ref h_chapterAt, .ref h_worths, .ref h_cutCounts, .ref h_lasts, .ref h_starts, .ref h_ways, .ref h_left, .ref h_right, .int v_segmentCount, .int v_least, .int v_most])), (h_starts, .inl (cI, 33, .inl v_starts))] 0 0 := by
  refine Mi.of (cc := cX0_allows) (maxL := 4) (by decide) rfl (Nat.le_of_ble_eq_true rfl) ⟨Nat.le_refl 0, Nat.le_refl 0⟩ ?_
  intro p e s m args below meth c A hC ha
  have hin_X0 : ∀ w ∈ wsX00, w ∈ wsX0_allows := by decide +kernel
  have hw_55 : Cond.fieldLink RX0 55 (TX0 12).1 (TX0 12).2.1 (TX0 12).2.2.1 ∈ wsX0_allows := by decide +kernel
  obtain ⟨Q, hQ⟩ : ∃ Q, Q = gq_Qi below D A args s r_ [(h_t_, .inr (0, [.int v_chapterCount, .int v_bestWorth, .ref h_changes, .ref h_firsts, .ref h_chapterAt, .ref h_worths, .ref h_cutCounts, .ref h_lasts, .ref h_starts, .ref h_ways, .ref h_left, .ref h_right, .int v_segmentCount, .int v_least, .int v_most])), (h_starts, .inl (cI, 33, .inl v_starts))] 0 0 := ⟨_, rfl⟩
  rw [← hQ]
  refine gq_loc [(0, .ref h_t_), (1, .int x1)] rfl ?_
  unfold F_X0_allows at hF
  refine gq_iconst hC (0 : Int32) dX0_allows_0 (by decide) ?_
  refine gq_istore_n hC [(2, .int (0 : Int32)), (0, .ref h_t_), (1, .int x1)] dX0_allows_1 rfl (by decide) rfl ?_
  refine gq_iconst hC (0 : Int32) dX0_allows_2 (by decide) ?_
  refine gq_istore_n hC [(3, .int (0 : Int32)), (2, .int (0 : Int32)), (0, .ref h_t_), (1, .int x1)] dX0_allows_3 rfl (by decide) rfl ?_
  have lp4 : ∀ (out_ : (Unit) ⊕ (Unit)), (out_ = .inl () → Gx p l e (rmD 2) s m args below meth c D A 4 Q 0 0 40 [] [] [(h_t_, .inr (0, [.int v_chapterCount, .int v_bestWorth, .ref h_changes, .ref h_firsts, .ref h_chapterAt, .ref h_worths, .ref h_cutCounts, .ref h_lasts, .ref h_starts, .ref h_ways, .ref h_left, .ref h_right, .int v_segmentCount, .int v_least, .int v_most])), (h_starts, .inl (cI, 33, .inl v_starts))]) → (out_ = .inr () → Gx p l e (rmD 2) s m args below meth c D A 4 Q 0 0 52 [(0, .ref h_t_)] [] [(h_t_, .inr (0, [.int v_chapterCount, .int v_bestWorth, .ref h_changes, .ref h_firsts, .ref h_chapterAt, .ref h_worths, .ref h_cutCounts, .ref h_lasts, .ref h_starts, .ref h_ways, .ref h_left, .ref h_right, .int v_segmentCount, .int v_least, .int v_most])), (h_starts, .inl (cI, 33, .inl v_starts))]) → ∀ (N : Nat) (l2_1 : Int32) (l3_2 : Int32), wh (fun k q => S_X0_allows_4 x1 v_segmentCount v_least v_most v_starts k q.1 q.2) N (l2_1, l3_2) = some out_ → Gx p l e (rmD 2) s m args below meth c D A 4 Q 0 0 4 [(0, .ref h_t_), (1, .int x1), (2, .int l2_1), (3, .int l3_2)] [] [(h_t_, .inr (0, [.int v_chapterCount, .int v_bestWorth, .ref h_changes, .ref h_firsts, .ref h_chapterAt, .ref h_worths, .ref h_cutCounts, .ref h_lasts, .ref h_starts, .ref h_ways, .ref h_left, .ref h_right, .int v_segmentCount, .int v_least, .int v_most])), (h_starts, .inl (cI, 33, .inl v_starts))] := by
    intro out_ hx0 hx1 N
    induction N with
    | zero => intro l2_1 l3_2 hw; exact absurd hw (wh_0 _ _ _)
    | succ N ih =>
      have jb31 : ∀ (l2_3 : Int32) (l3_4 : Int32), F_X0_allows_b31 (wh (fun k q => S_X0_allows_4 x1 v_segmentCount v_least v_most v_starts k q.1 q.2) N) x1 l2_3 l3_4 v_segmentCount v_least v_most v_starts = some out_ → Gx p l e (rmD 2) s m args below meth c D A 4 Q 0 0 31 [(0, .ref h_t_), (1, .int x1), (2, .int l2_3), (3, .int l3_4)] [] [(h_t_, .inr (0, [.int v_chapterCount, .int v_bestWorth, .ref h_changes, .ref h_firsts, .ref h_chapterAt, .ref h_worths, .ref h_cutCounts, .ref h_lasts, .ref h_starts, .ref h_ways, .ref h_left, .ref h_right, .int v_segmentCount, .int v_least, .int v_most])), (h_starts, .inl (cI, 33, .inl v_starts))] := by
        intro l2_3 l3_4 hF
        unfold F_X0_allows_b31 at hF
        refine gq_aload_n hC 0 dX0_allows_31 rfl rfl ?_
        refine gq_iload_n hC 2 dX0_allows_32 rfl rfl ?_
        refine gq_iload_n hC 3 dX0_allows_33 rfl rfl ?_
        obtain ⟨r_5, hc_, hF⟩ := ob1_e hF
        refine gq_callVi hC [0, 1] [(h_t_, .inr (0, [.int v_chapterCount, .int v_bestWorth, .ref h_changes, .ref h_firsts, .ref h_chapterAt, .ref h_worths, .ref h_cutCounts, .ref h_lasts, .ref h_starts, .ref h_ways, .ref h_left, .ref h_right, .int v_segmentCount, .int v_least, .int v_most])), (h_starts, .inl (cI, 33, .inl v_starts))] [.int l2_3, .int l3_4] [] (k_X0_isLongEnough l D cI cJ cZ cO z h_t_ h_starts h_changes h_firsts h_chapterAt h_worths h_cutCounts h_lasts h_ways h_left h_right l2_3 l3_4 v_chapterCount v_bestWorth v_segmentCount v_least v_most v_starts r_5 hc_) gX0_allows_X0_isLongEnough rfl ⟨rfl, rfl⟩ hy_X0_isLongEnough ⟨Nat.le_of_ble_eq_true rfl, Nat.le_of_ble_eq_true rfl⟩ rfl rfl rfl (q0 := 0) rfl rfl rfl (Nat.le_of_ble_eq_true rfl) rfl dX0_allows_34 rfl rfl ?_
        refine gq_if_ne hC 42 dX0_allows_37 (by decide) (fun hc_6 => ?_) (fun hc_6 => ?_)
        · have hF := (if_neg hc_6).symm.trans hF
          refine gq_iload_n hC 3 dX0_allows_42 rfl rfl ?_
          refine gq_iconst hC (1 : Int32) dX0_allows_43 (by decide) ?_
          refine gq_iadd hC dX0_allows_44 ?_
          refine gq_istore_n hC [(2, .int (l3_4 + (1 : Int32))), (0, .ref h_t_), (1, .int x1), (3, .int l3_4)] dX0_allows_45 rfl (by decide) rfl ?_
          refine gq_iinc hC 3 (l3_4 + (1 : Int32)) [(3, .int (l3_4 + (1 : Int32))), (2, .int (l3_4 + (1 : Int32))), (0, .ref h_t_), (1, .int x1)] dX0_allows_46 rfl rfl (by decide) rfl ?_
          refine gq_goto hC 4 dX0_allows_49 (by decide) ?_
          refine gq_sub [(0, .ref h_t_), (1, .int x1), (2, .int (l3_4 + (1 : Int32))), (3, .int (l3_4 + (1 : Int32)))] [2, 3, 1, 0] rfl ?_
          exact ih (l3_4 + (1 : Int32)) (l3_4 + (1 : Int32)) hF
        · have hF := (if_pos hc_6).symm.trans hF
          refine gq_sub [] [] rfl ?_
          exact hx0  (Option.some.inj hF).symm
      intro l2_1 l3_2 hw
      have hF : S_X0_allows_4 x1 v_segmentCount v_least v_most v_starts (wh (fun k q => S_X0_allows_4 x1 v_segmentCount v_least v_most v_starts k q.1 q.2) N) l2_1 l3_2 = some out_ := hw
      unfold S_X0_allows_4 at hF
      refine gq_iload_n hC 3 dX0_allows_4 rfl rfl ?_
      refine gq_aload_n hC 0 dX0_allows_5 rfl rfl ?_
      refine gq_get hC (kf := 12) 0 hin_X0 rfl rfl (by decide) hw_55 rfl dX0_allows_6 ?_
      refine gq_icmp_ge hC 52 dX0_allows_9 (by decide) (fun hc_9 => ?_) (fun hc_9 => ?_)
      · have hF := (if_pos hc_9).symm.trans hF
        refine gq_sub [(0, .ref h_t_)] [0] rfl ?_
        exact hx1  (Option.some.inj hF).symm
      · have hF := (if_neg hc_9).symm.trans hF
        refine gq_iload_n hC 3 dX0_allows_12 rfl rfl ?_
        refine gq_aload_n hC 0 dX0_allows_13 rfl rfl ?_
        refine gq_get hC (kf := 12) 0 hin_X0 rfl rfl (by decide) hw_55 rfl dX0_allows_14 ?_
        refine gq_iconst hC (1 : Int32) dX0_allows_17 (by decide) ?_
        refine gq_isub hC dX0_allows_18 ?_
        refine gq_icmp_eq hC 31 dX0_allows_19 (by decide) (fun hc_8 => ?_) (fun hc_8 => ?_)
        · have hF := (if_pos hc_8).symm.trans hF
          exact jb31 l2_1 l3_2 hF
        · have hF := (if_neg hc_8).symm.trans hF
          refine gq_iload_n hC 1 dX0_allows_22 rfl rfl ?_
          refine gq_iload_n hC 3 dX0_allows_23 rfl rfl ?_
          refine gq_iushr hC dX0_allows_24 ?_
          refine gq_iconst hC (1 : Int32) dX0_allows_25 (by decide) ?_
          refine gq_iand hC dX0_allows_26 ?_
          refine gq_iconst hC (1 : Int32) dX0_allows_27 (by decide) ?_
          refine gq_icmp_ne hC 46 dX0_allows_28 (by decide) (fun hc_7 => ?_) (fun hc_7 => ?_)
          · have hF := (if_neg hc_7).symm.trans hF
            refine gq_iinc hC 3 (l3_2 + (1 : Int32)) [(3, .int (l3_2 + (1 : Int32))), (0, .ref h_t_), (1, .int x1), (2, .int l2_1)] dX0_allows_46 rfl rfl (by decide) rfl ?_
            refine gq_goto hC 4 dX0_allows_49 (by decide) ?_
            refine gq_sub [(0, .ref h_t_), (1, .int x1), (2, .int l2_1), (3, .int (l3_2 + (1 : Int32)))] [1, 2, 3, 0] rfl ?_
            exact ih l2_1 (l3_2 + (1 : Int32)) hF
          · have hF := (if_pos hc_7).symm.trans hF
            exact jb31 l2_1 l3_2 hF
  refine gq_sub [(0, .ref h_t_), (1, .int x1), (2, .int (0 : Int32)), (3, .int (0 : Int32))] [2, 3, 1, 0] rfl ?_
  obtain ⟨o_, hw_, hF⟩ := ob1_e hF
  refine lp4  o_ ?_ ?_ wF (0 : Int32) (0 : Int32) hw_
  · intro  ho_10
    subst ho_10
    have hF : (some (0 : Int32)) = some _ := hF
    refine gq_iconst hC (0 : Int32) dX0_allows_40 (by decide) ?_
    cases hF
    rw [hQ]
    exact gq_iret hC rfl dX0_allows_41
  · intro  ho_12
    subst ho_12
    have hF : (if v_segmentCount ≤ 0 then (some (0 : Int32)) else (some (1 : Int32))) = some _ := hF
    refine gq_aload_n hC 0 dX0_allows_52 rfl rfl ?_
    refine gq_get hC (kf := 12) 0 hin_X0 rfl rfl (by decide) hw_55 rfl dX0_allows_53 ?_
    refine gq_if_le hC 63 dX0_allows_56 (by decide) (fun hc_11 => ?_) (fun hc_11 => ?_)
    · have hF := (if_pos hc_11).symm.trans hF
      refine gq_iconst hC (0 : Int32) dX0_allows_63 (by decide) ?_
      cases hF
      rw [hQ]
      exact gq_iret hC rfl dX0_allows_64
    · have hF := (if_neg hc_11).symm.trans hF
      refine gq_iconst hC (1 : Int32) dX0_allows_59 (by decide) ?_
      refine gq_goto hC 64 dX0_allows_60 (by decide) ?_
      cases hF
      rw [hQ]
      exact gq_iret hC rfl dX0_allows_64
theorem hy_X0_countAllowed : yX0_countAllowed.cls = RX0 ∧ yX0_countAllowed.cls ≠ "java/lang/invoke/MethodHandle" ∧ yX0_countAllowed.cls ≠ "java/lang/invoke/VarHandle" ∧ (parseMethodDescriptor yX0_countAllowed.desc).map (fun d => d.parameters.length) = some 0 := by decide +kernel
set_option maxRecDepth 20000 in
set_option maxHeartbeats 4000000 in
theorem k_X0_countAllowed (l : Launch) (D : va_G) (cI cJ cZ cO : ClassId) (z : Nat → Nat)   (h_t_ : Nat) (h_starts : Nat) (h_ways : Nat) (h_changes : Nat) (h_firsts : Nat) (h_chapterAt : Nat) (h_worths : Nat) (h_cutCounts : Nat) (h_lasts : Nat) (h_left : Nat) (h_right : Nat)  (v_chapterCount : Int32) (v_bestWorth : Int32) (v_segmentCount : Int32) (v_least : Int32) (v_most : Int32) (v_starts : Nat → Int32) (v_ways : Nat → Int64) (r_ : Int64) (w_ways : Nat → Int64) (hF : F_X0_countAllowed v_segmentCount v_least v_most v_starts v_ways = some (r_, w_ways)) : Ml l yX0_countAllowed wsX0_countAllowed (rmD 2) D (gq_ty cI cJ cZ cO) z [.ref h_t_] [(h_t_, .inr (0, [.int v_chapterCount, .int v_bestWorth, .ref h_changes, .ref h_firsts, .ref h_chapterAt, .ref h_worths, .ref h_cutCounts, .ref h_lasts, .ref h_starts, .ref h_ways, .ref h_left, .ref h_right, .int v_segmentCount, .int v_least, .int v_most])), (h_starts, .inl (cI, 33, .inl v_starts)), (h_ways, .inl (cJ, 33, .inr (.inl v_ways)))] r_ [(h_t_, .inr (0, [.int v_chapterCount, .int v_bestWorth, .ref h_changes, .ref h_firsts, .ref h_chapterAt, .ref h_worths, .ref h_cutCounts, .ref h_lasts, .ref h_starts, .ref h_ways, .ref h_left, .ref h_right, .int v_segmentCount, .int v_least, .int v_most])), (h_starts, .inl (cI, 33, .inl v_starts)), (h_ways, .inl (cJ, 33, .inr (.inl w_ways)))] 0 0 := by
  refine Ml.of (cc := cX0_countAllowed) (maxL := 3) (by decide) rfl (Nat.le_of_ble_eq_true rfl) ⟨Nat.le_refl 0, Nat.le_refl 0⟩ ?_
  intro p e s m args below meth c A hC ha
  have hin_X0 : ∀ w ∈ wsX00, w ∈ wsX0_countAllowed := by decide +kernel
  have hw_33 : Cond.fieldLink RX0 33 (TX0 9).1 (TX0 9).2.1 (TX0 9).2.2.1 ∈ wsX0_countAllowed := by decide +kernel
  have hw_55 : Cond.fieldLink RX0 55 (TX0 12).1 (TX0 12).2.1 (TX0 12).2.2.1 ∈ wsX0_countAllowed := by decide +kernel
  obtain ⟨Q, hQ⟩ : ∃ Q, Q = gq_Ql below D A args s r_ [(h_t_, .inr (0, [.int v_chapterCount, .int v_bestWorth, .ref h_changes, .ref h_firsts, .ref h_chapterAt, .ref h_worths, .ref h_cutCounts, .ref h_lasts, .ref h_starts, .ref h_ways, .ref h_left, .ref h_right, .int v_segmentCount, .int v_least, .int v_most])), (h_starts, .inl (cI, 33, .inl v_starts)), (h_ways, .inl (cJ, 33, .inr (.inl w_ways)))] 0 0 := ⟨_, rfl⟩
  rw [← hQ]
  refine gq_loc [(0, .ref h_t_)] rfl ?_
  unfold F_X0_countAllowed at hF
  refine gq_aload_n hC 0 dX0_countAllowed_0 rfl rfl ?_
  refine gq_get hC (kf := 9) 0 hin_X0 rfl rfl (by decide) hw_33 rfl dX0_countAllowed_1 ?_
  refine gq_aload_n hC 0 dX0_countAllowed_4 rfl rfl ?_
  refine gq_get hC (kf := 12) 0 hin_X0 rfl rfl (by decide) hw_55 rfl dX0_countAllowed_5 ?_
  refine gq_lconst hC (1 : Int64) dX0_countAllowed_8 (by decide) ?_
  obtain ⟨hi_1, hF⟩ := gi_e hF
  refine gq_last hC 2 1 [(h_t_, .inr (0, [.int v_chapterCount, .int v_bestWorth, .ref h_changes, .ref h_firsts, .ref h_chapterAt, .ref h_worths, .ref h_cutCounts, .ref h_lasts, .ref h_starts, .ref h_ways, .ref h_left, .ref h_right, .int v_segmentCount, .int v_least, .int v_most])), (h_starts, .inl (cI, 33, .inl v_starts)), (h_ways, .inl (cJ, 33, .inr (.inl (vp_updL v_ways v_segmentCount.toNatClampNeg (1 : Int64)))))] rfl rfl hi_1 dX0_countAllowed_9 rfl ?_
  refine gq_aload_n hC 0 dX0_countAllowed_10 rfl rfl ?_
  refine gq_get hC (kf := 12) 0 hin_X0 rfl rfl (by decide) hw_55 rfl dX0_countAllowed_11 ?_
  refine gq_iconst hC (1 : Int32) dX0_countAllowed_14 (by decide) ?_
  refine gq_isub hC dX0_countAllowed_15 ?_
  refine gq_istore_n hC [(1, .int (v_segmentCount - (1 : Int32))), (0, .ref h_t_)] dX0_countAllowed_16 rfl (by decide) rfl ?_
  have lp17 : ∀ (e_17 : (Nat → Int64)), Gx p l e (rmD 2) s m args below meth c D A 3 Q 0 0 76 [(0, .ref h_t_)] [] [(h_t_, .inr (0, [.int v_chapterCount, .int v_bestWorth, .ref h_changes, .ref h_firsts, .ref h_chapterAt, .ref h_worths, .ref h_cutCounts, .ref h_lasts, .ref h_starts, .ref h_ways, .ref h_left, .ref h_right, .int v_segmentCount, .int v_least, .int v_most])), (h_starts, .inl (cI, 33, .inl v_starts)), (h_ways, .inl (cJ, 33, .inr (.inl e_17)))] → ∀ (N : Nat) (l1_2 : Int32) (v_ways_3 : Nat → Int64), wh (fun k q => S_X0_countAllowed_17 v_segmentCount v_least v_most v_starts k q.1 q.2) N (l1_2, v_ways_3) = some e_17 → Gx p l e (rmD 2) s m args below meth c D A 3 Q 0 0 17 [(0, .ref h_t_), (1, .int l1_2)] [] [(h_t_, .inr (0, [.int v_chapterCount, .int v_bestWorth, .ref h_changes, .ref h_firsts, .ref h_chapterAt, .ref h_worths, .ref h_cutCounts, .ref h_lasts, .ref h_starts, .ref h_ways, .ref h_left, .ref h_right, .int v_segmentCount, .int v_least, .int v_most])), (h_starts, .inl (cI, 33, .inl v_starts)), (h_ways, .inl (cJ, 33, .inr (.inl v_ways_3)))] := by
    intro e_17 hx0 N
    induction N with
    | zero => intro l1_2 v_ways_3 hw; exact absurd hw (wh_0 _ _ _)
    | succ N ih =>
      intro l1_2 v_ways_3 hw
      have hF : S_X0_countAllowed_17 v_segmentCount v_least v_most v_starts (wh (fun k q => S_X0_countAllowed_17 v_segmentCount v_least v_most v_starts k q.1 q.2) N) l1_2 v_ways_3 = some e_17 := hw
      unfold S_X0_countAllowed_17 at hF
      refine gq_iload_n hC 1 dX0_countAllowed_17 rfl rfl ?_
      refine gq_if_lt hC 76 dX0_countAllowed_18 (by decide) (fun hc_16 => ?_) (fun hc_16 => ?_)
      · have hF := (if_pos hc_16).symm.trans hF
        refine gq_sub [(0, .ref h_t_)] [0] rfl ?_
        cases hF
        exact hx0
      · have hF := (if_neg hc_16).symm.trans hF
        refine gq_aload_n hC 0 dX0_countAllowed_21 rfl rfl ?_
        refine gq_get hC (kf := 9) 0 hin_X0 rfl rfl (by decide) hw_33 rfl dX0_countAllowed_22 ?_
        refine gq_iload_n hC 1 dX0_countAllowed_25 rfl rfl ?_
        refine gq_lconst hC (0 : Int64) dX0_countAllowed_26 (by decide) ?_
        obtain ⟨hi_4, hF⟩ := gi_e hF
        refine gq_last hC 2 1 [(h_t_, .inr (0, [.int v_chapterCount, .int v_bestWorth, .ref h_changes, .ref h_firsts, .ref h_chapterAt, .ref h_worths, .ref h_cutCounts, .ref h_lasts, .ref h_starts, .ref h_ways, .ref h_left, .ref h_right, .int v_segmentCount, .int v_least, .int v_most])), (h_starts, .inl (cI, 33, .inl v_starts)), (h_ways, .inl (cJ, 33, .inr (.inl (vp_updL v_ways_3 l1_2.toNatClampNeg (0 : Int64)))))] rfl rfl hi_4 dX0_countAllowed_27 rfl ?_
        refine gq_iload_n hC 1 dX0_countAllowed_28 rfl rfl ?_
        refine gq_istore_n hC [(2, .int l1_2), (0, .ref h_t_), (1, .int l1_2)] dX0_countAllowed_29 rfl (by decide) rfl ?_
        have lp30 : ∀ (l1_5 : Int32), ∀ (e_14 : (Nat → Int64)), Gx p l e (rmD 2) s m args below meth c D A 3 Q 0 0 70 [(0, .ref h_t_), (1, .int l1_5)] [] [(h_t_, .inr (0, [.int v_chapterCount, .int v_bestWorth, .ref h_changes, .ref h_firsts, .ref h_chapterAt, .ref h_worths, .ref h_cutCounts, .ref h_lasts, .ref h_starts, .ref h_ways, .ref h_left, .ref h_right, .int v_segmentCount, .int v_least, .int v_most])), (h_starts, .inl (cI, 33, .inl v_starts)), (h_ways, .inl (cJ, 33, .inr (.inl e_14)))] → ∀ (N : Nat) (l2_6 : Int32) (v_ways_7 : Nat → Int64), wh (fun k q => S_X0_countAllowed_30 l1_5 v_segmentCount v_least v_most v_starts k q.1 q.2) N (l2_6, v_ways_7) = some e_14 → Gx p l e (rmD 2) s m args below meth c D A 3 Q 0 0 30 [(0, .ref h_t_), (1, .int l1_5), (2, .int l2_6)] [] [(h_t_, .inr (0, [.int v_chapterCount, .int v_bestWorth, .ref h_changes, .ref h_firsts, .ref h_chapterAt, .ref h_worths, .ref h_cutCounts, .ref h_lasts, .ref h_starts, .ref h_ways, .ref h_left, .ref h_right, .int v_segmentCount, .int v_least, .int v_most])), (h_starts, .inl (cI, 33, .inl v_starts)), (h_ways, .inl (cJ, 33, .inr (.inl v_ways_7)))] := by
          intro l1_5 e_14 hx0 N
          induction N with
          | zero => intro l2_6 v_ways_7 hw; exact absurd hw (wh_0 _ _ _)
          | succ N ih =>
            intro l2_6 v_ways_7 hw
            have hF : S_X0_countAllowed_30 l1_5 v_segmentCount v_least v_most v_starts (wh (fun k q => S_X0_countAllowed_30 l1_5 v_segmentCount v_least v_most v_starts k q.1 q.2) N) l2_6 v_ways_7 = some e_14 := hw
            unfold S_X0_countAllowed_30 at hF
            refine gq_iload_n hC 2 dX0_countAllowed_30 rfl rfl ?_
            refine gq_aload_n hC 0 dX0_countAllowed_31 rfl rfl ?_
            refine gq_get hC (kf := 12) 0 hin_X0 rfl rfl (by decide) hw_55 rfl dX0_countAllowed_32 ?_
            refine gq_icmp_ge hC 70 dX0_countAllowed_35 (by decide) (fun hc_13 => ?_) (fun hc_13 => ?_)
            · have hF := (if_pos hc_13).symm.trans hF
              refine gq_sub [(0, .ref h_t_), (1, .int l1_5)] [0, 1] rfl ?_
              cases hF
              exact hx0
            · have hF := (if_neg hc_13).symm.trans hF
              refine gq_aload_n hC 0 dX0_countAllowed_38 rfl rfl ?_
              refine gq_iload_n hC 1 dX0_countAllowed_39 rfl rfl ?_
              refine gq_iload_n hC 2 dX0_countAllowed_40 rfl rfl ?_
              obtain ⟨r_8, hc_, hF⟩ := ob1_e hF
              refine gq_callVi hC [0, 1] [(h_t_, .inr (0, [.int v_chapterCount, .int v_bestWorth, .ref h_changes, .ref h_firsts, .ref h_chapterAt, .ref h_worths, .ref h_cutCounts, .ref h_lasts, .ref h_starts, .ref h_ways, .ref h_left, .ref h_right, .int v_segmentCount, .int v_least, .int v_most])), (h_starts, .inl (cI, 33, .inl v_starts)), (h_ways, .inl (cJ, 33, .inr (.inl v_ways_7)))] [.int l1_5, .int l2_6] [] (k_X0_isLongEnough l D cI cJ cZ cO z h_t_ h_starts h_changes h_firsts h_chapterAt h_worths h_cutCounts h_lasts h_ways h_left h_right l1_5 l2_6 v_chapterCount v_bestWorth v_segmentCount v_least v_most v_starts r_8 hc_) gX0_countAllowed_X0_isLongEnough rfl ⟨rfl, rfl⟩ hy_X0_isLongEnough ⟨Nat.le_of_ble_eq_true rfl, Nat.le_of_ble_eq_true rfl⟩ rfl rfl rfl (q0 := 0) rfl rfl rfl (Nat.le_of_ble_eq_true rfl) rfl dX0_countAllowed_41 rfl rfl ?_
              refine gq_if_eq hC 64 dX0_countAllowed_44 (by decide) (fun hc_12 => ?_) (fun hc_12 => ?_)
              · have hF := (if_pos hc_12).symm.trans hF
                refine gq_iinc hC 2 (l2_6 + (1 : Int32)) [(2, .int (l2_6 + (1 : Int32))), (0, .ref h_t_), (1, .int l1_5)] dX0_countAllowed_64 rfl rfl (by decide) rfl ?_
                refine gq_goto hC 30 dX0_countAllowed_67 (by decide) ?_
                refine gq_sub [(0, .ref h_t_), (1, .int l1_5), (2, .int (l2_6 + (1 : Int32)))] [1, 2, 0] rfl ?_
                exact ih (l2_6 + (1 : Int32)) v_ways_7 hF
              · have hF := (if_neg hc_12).symm.trans hF
                refine gq_aload_n hC 0 dX0_countAllowed_47 rfl rfl ?_
                refine gq_get hC (kf := 9) 0 hin_X0 rfl rfl (by decide) hw_33 rfl dX0_countAllowed_48 ?_
                refine gq_iload_n hC 1 dX0_countAllowed_51 rfl rfl ?_
                refine gq_dup2 hC dX0_countAllowed_52 rfl rfl ?_
                obtain ⟨hi_9, hF⟩ := gi_e hF
                refine gq_lald hC 2 1 rfl rfl hi_9 dX0_countAllowed_53 ?_
                refine gq_aload_n hC 0 dX0_countAllowed_54 rfl rfl ?_
                refine gq_get hC (kf := 9) 0 hin_X0 rfl rfl (by decide) hw_33 rfl dX0_countAllowed_55 ?_
                refine gq_iload_n hC 2 dX0_countAllowed_58 rfl rfl ?_
                refine gq_iconst hC (1 : Int32) dX0_countAllowed_59 (by decide) ?_
                refine gq_iadd hC dX0_countAllowed_60 ?_
                obtain ⟨hi_10, hF⟩ := gi_e hF
                refine gq_lald hC 2 1 rfl rfl hi_10 dX0_countAllowed_61 ?_
                refine gq_ladd hC dX0_countAllowed_62 ?_
                obtain ⟨hi_11, hF⟩ := gi_e hF
                refine gq_last hC 2 1 [(h_t_, .inr (0, [.int v_chapterCount, .int v_bestWorth, .ref h_changes, .ref h_firsts, .ref h_chapterAt, .ref h_worths, .ref h_cutCounts, .ref h_lasts, .ref h_starts, .ref h_ways, .ref h_left, .ref h_right, .int v_segmentCount, .int v_least, .int v_most])), (h_starts, .inl (cI, 33, .inl v_starts)), (h_ways, .inl (cJ, 33, .inr (.inl (vp_updL v_ways_7 l1_5.toNatClampNeg ((v_ways_7 l1_5.toNatClampNeg) + (v_ways_7 (l2_6 + (1 : Int32)).toNatClampNeg))))))] rfl rfl hi_11 dX0_countAllowed_63 rfl ?_
                refine gq_iinc hC 2 (l2_6 + (1 : Int32)) [(2, .int (l2_6 + (1 : Int32))), (0, .ref h_t_), (1, .int l1_5)] dX0_countAllowed_64 rfl rfl (by decide) rfl ?_
                refine gq_goto hC 30 dX0_countAllowed_67 (by decide) ?_
                refine gq_sub [(0, .ref h_t_), (1, .int l1_5), (2, .int (l2_6 + (1 : Int32)))] [1, 2, 0] rfl ?_
                exact ih (l2_6 + (1 : Int32)) (vp_updL v_ways_7 l1_5.toNatClampNeg ((v_ways_7 l1_5.toNatClampNeg) + (v_ways_7 (l2_6 + (1 : Int32)).toNatClampNeg))) hF
        refine gq_sub [(0, .ref h_t_), (1, .int l1_2), (2, .int l1_2)] [1, 2, 0] rfl ?_
        obtain ⟨e_15, hw_, hF⟩ := ob1_e hF
        refine lp30 l1_2 e_15 ?_ wF l1_2 (vp_updL v_ways_3 l1_2.toNatClampNeg (0 : Int64)) hw_
        refine gq_iinc hC 1 (l1_2 + (-1 : Int32)) [(1, .int (l1_2 + (-1 : Int32))), (0, .ref h_t_)] dX0_countAllowed_70 rfl rfl (by decide) rfl ?_
        refine gq_goto hC 17 dX0_countAllowed_73 (by decide) ?_
        refine gq_sub [(0, .ref h_t_), (1, .int (l1_2 + (-1 : Int32)))] [1, 0] rfl ?_
        exact ih (l1_2 + (-1 : Int32)) e_15 hF
  refine gq_sub [(0, .ref h_t_), (1, .int (v_segmentCount - (1 : Int32)))] [1, 0] rfl ?_
  obtain ⟨e_18, hw_, hF⟩ := ob1_e hF
  refine lp17  e_18 ?_ wF (v_segmentCount - (1 : Int32)) (vp_updL v_ways v_segmentCount.toNatClampNeg (1 : Int64)) hw_
  refine gq_aload_n hC 0 dX0_countAllowed_76 rfl rfl ?_
  refine gq_get hC (kf := 12) 0 hin_X0 rfl rfl (by decide) hw_55 rfl dX0_countAllowed_77 ?_
  refine gq_if_le hC 92 dX0_countAllowed_80 (by decide) (fun hc_20 => ?_) (fun hc_20 => ?_)
  · have hF := (if_pos hc_20).symm.trans hF
    refine gq_lconst hC (0 : Int64) dX0_countAllowed_92 (by decide) ?_
    cases hF
    rw [hQ]
    exact gq_lret hC dX0_countAllowed_93
  · have hF := (if_neg hc_20).symm.trans hF
    refine gq_aload_n hC 0 dX0_countAllowed_83 rfl rfl ?_
    refine gq_get hC (kf := 9) 0 hin_X0 rfl rfl (by decide) hw_33 rfl dX0_countAllowed_84 ?_
    refine gq_iconst hC (0 : Int32) dX0_countAllowed_87 (by decide) ?_
    obtain ⟨hi_19, hF⟩ := gi_e hF
    refine gq_lald hC 2 1 rfl rfl hi_19 dX0_countAllowed_88 ?_
    refine gq_goto hC 93 dX0_countAllowed_89 (by decide) ?_
    cases hF
    rw [hQ]
    exact gq_lret hC dX0_countAllowed_93
theorem hy_X0_chaptersAtPrice : yX0_chaptersAtPrice.cls = RX0 ∧ yX0_chaptersAtPrice.cls ≠ "java/lang/invoke/MethodHandle" ∧ yX0_chaptersAtPrice.cls ≠ "java/lang/invoke/VarHandle" ∧ (parseMethodDescriptor yX0_chaptersAtPrice.desc).map (fun d => d.parameters.length) = some 1 := by decide +kernel
set_option maxRecDepth 20000 in
set_option maxHeartbeats 4000000 in
theorem k_X0_chaptersAtPrice (l : Launch) (D : va_G) (cI cJ cZ cO : ClassId) (z : Nat → Nat)   (h_t_ : Nat) (h_changes : Nat) (h_worths : Nat) (h_cutCounts : Nat) (h_lasts : Nat) (h_starts : Nat) (h_firsts : Nat) (h_chapterAt : Nat) (h_ways : Nat) (h_left : Nat) (h_right : Nat) (x1 : Int32) (v_chapterCount : Int32) (v_bestWorth : Int32) (v_segmentCount : Int32) (v_least : Int32) (v_most : Int32) (v_changes : Nat → Int32) (v_worths : Nat → Int32) (v_cutCounts : Nat → Int32) (v_lasts : Nat → Int32) (v_starts : Nat → Int32) (r_ : Int32) (w_worths : Nat → Int32) (w_cutCounts : Nat → Int32) (w_lasts : Nat → Int32) (hF : F_X0_chaptersAtPrice x1 v_segmentCount v_least v_most v_changes v_worths v_cutCounts v_lasts v_starts = some (r_, w_worths, w_cutCounts, w_lasts)) : Mi l yX0_chaptersAtPrice wsX0_chaptersAtPrice (rmD 3) D (gq_ty cI cJ cZ cO) z [.ref h_t_, .int x1] [(h_t_, .inr (0, [.int v_chapterCount, .int v_bestWorth, .ref h_changes, .ref h_firsts, .ref h_chapterAt, .ref h_worths, .ref h_cutCounts, .ref h_lasts, .ref h_starts, .ref h_ways, .ref h_left, .ref h_right, .int v_segmentCount, .int v_least, .int v_most])), (h_changes, .inl (cI, 31, .inl v_changes)), (h_worths, .inl (cI, 32, .inl v_worths)), (h_cutCounts, .inl (cI, 32, .inl v_cutCounts)), (h_lasts, .inl (cI, 32, .inl v_lasts)), (h_starts, .inl (cI, 33, .inl v_starts))] r_ [(h_t_, .inr (0, [.int v_chapterCount, .int v_bestWorth, .ref h_changes, .ref h_firsts, .ref h_chapterAt, .ref h_worths, .ref h_cutCounts, .ref h_lasts, .ref h_starts, .ref h_ways, .ref h_left, .ref h_right, .int v_segmentCount, .int v_least, .int v_most])), (h_changes, .inl (cI, 31, .inl v_changes)), (h_worths, .inl (cI, 32, .inl w_worths)), (h_cutCounts, .inl (cI, 32, .inl w_cutCounts)), (h_lasts, .inl (cI, 32, .inl w_lasts)), (h_starts, .inl (cI, 33, .inl v_starts))] 0 0 := by
  refine Mi.of (cc := cX0_chaptersAtPrice) (maxL := 2) (by decide) rfl (Nat.le_of_ble_eq_true rfl) ⟨Nat.le_refl 0, Nat.le_refl 0⟩ ?_
  intro p e s m args below meth c A hC ha
  have hin_X0 : ∀ w ∈ wsX00, w ∈ wsX0_chaptersAtPrice := by decide +kernel
  have hw_24 : Cond.fieldLink RX0 24 (TX0 6).1 (TX0 6).2.1 (TX0 6).2.2.1 ∈ wsX0_chaptersAtPrice := by decide +kernel
  obtain ⟨Q, hQ⟩ : ∃ Q, Q = gq_Qi below D A args s r_ [(h_t_, .inr (0, [.int v_chapterCount, .int v_bestWorth, .ref h_changes, .ref h_firsts, .ref h_chapterAt, .ref h_worths, .ref h_cutCounts, .ref h_lasts, .ref h_starts, .ref h_ways, .ref h_left, .ref h_right, .int v_segmentCount, .int v_least, .int v_most])), (h_changes, .inl (cI, 31, .inl v_changes)), (h_worths, .inl (cI, 32, .inl w_worths)), (h_cutCounts, .inl (cI, 32, .inl w_cutCounts)), (h_lasts, .inl (cI, 32, .inl w_lasts)), (h_starts, .inl (cI, 33, .inl v_starts))] 0 0 := ⟨_, rfl⟩
  rw [← hQ]
  refine gq_loc [(0, .ref h_t_), (1, .int x1)] rfl ?_
  unfold F_X0_chaptersAtPrice at hF
  refine gq_aload_n hC 0 dX0_chaptersAtPrice_0 rfl rfl ?_
  refine gq_iload_n hC 1 dX0_chaptersAtPrice_1 rfl rfl ?_
  refine gq_iconst hC (-1 : Int32) dX0_chaptersAtPrice_2 (by decide) ?_
  refine gq_iconst hC (-1 : Int32) dX0_chaptersAtPrice_3 (by decide) ?_
  obtain ⟨r_1, v_worths_2, v_cutCounts_3, v_lasts_4, hc_, hF⟩ := ob4_e hF
  refine gq_callVi hC [0, 1, 2, 3, 4, 5] [(h_t_, .inr (0, [.int v_chapterCount, .int v_bestWorth, .ref h_changes, .ref h_firsts, .ref h_chapterAt, .ref h_worths, .ref h_cutCounts, .ref h_lasts, .ref h_starts, .ref h_ways, .ref h_left, .ref h_right, .int v_segmentCount, .int v_least, .int v_most])), (h_changes, .inl (cI, 31, .inl v_changes)), (h_worths, .inl (cI, 32, .inl v_worths_2)), (h_cutCounts, .inl (cI, 32, .inl v_cutCounts_3)), (h_lasts, .inl (cI, 32, .inl v_lasts_4)), (h_starts, .inl (cI, 33, .inl v_starts))] [.int x1, .int (-1 : Int32), .int (-1 : Int32)] [] (k_X0_solve l D cI cJ cZ cO z h_t_ h_changes h_worths h_cutCounts h_lasts h_starts h_firsts h_chapterAt h_ways h_left h_right x1 (-1 : Int32) (-1 : Int32) v_chapterCount v_bestWorth v_segmentCount v_least v_most v_changes v_worths v_cutCounts v_lasts v_starts r_1 v_worths_2 v_cutCounts_3 v_lasts_4 hc_) gX0_chaptersAtPrice_X0_solve rfl ⟨rfl, rfl⟩ hy_X0_solve ⟨Nat.le_of_ble_eq_true rfl, Nat.le_of_ble_eq_true rfl⟩ rfl rfl rfl (q0 := 0) rfl rfl rfl (Nat.le_of_ble_eq_true rfl) rfl dX0_chaptersAtPrice_4 rfl rfl ?_
  refine gq_if_eq hC 21 dX0_chaptersAtPrice_7 (by decide) (fun hc_6 => ?_) (fun hc_6 => ?_)
  · have hF := (if_pos hc_6).symm.trans hF
    refine gq_iconst hC (0 : Int32) dX0_chaptersAtPrice_21 (by decide) ?_
    cases hF
    rw [hQ]
    exact gq_iret hC rfl dX0_chaptersAtPrice_22
  · have hF := (if_neg hc_6).symm.trans hF
    refine gq_aload_n hC 0 dX0_chaptersAtPrice_10 rfl rfl ?_
    refine gq_get hC (kf := 6) 0 hin_X0 rfl rfl (by decide) hw_24 rfl dX0_chaptersAtPrice_11 ?_
    refine gq_iconst hC (0 : Int32) dX0_chaptersAtPrice_14 (by decide) ?_
    obtain ⟨hi_5, hF⟩ := gi_e hF
    refine gq_iald hC 3 0 rfl rfl hi_5 dX0_chaptersAtPrice_15 ?_
    refine gq_iconst hC (1 : Int32) dX0_chaptersAtPrice_16 (by decide) ?_
    refine gq_iadd hC dX0_chaptersAtPrice_17 ?_
    refine gq_goto hC 22 dX0_chaptersAtPrice_18 (by decide) ?_
    cases hF
    rw [hQ]
    exact gq_iret hC rfl dX0_chaptersAtPrice_22
theorem hy_X0_greatestPrice : yX0_greatestPrice.cls = RX0 ∧ yX0_greatestPrice.cls ≠ "java/lang/invoke/MethodHandle" ∧ yX0_greatestPrice.cls ≠ "java/lang/invoke/VarHandle" ∧ (parseMethodDescriptor yX0_greatestPrice.desc).map (fun d => d.parameters.length) = some 1 := by decide +kernel
set_option maxRecDepth 20000 in
set_option maxHeartbeats 4000000 in
theorem k_X0_greatestPrice (l : Launch) (D : va_G) (cI cJ cZ cO : ClassId) (z : Nat → Nat)   (h_t_ : Nat) (h_changes : Nat) (h_worths : Nat) (h_cutCounts : Nat) (h_lasts : Nat) (h_starts : Nat) (h_firsts : Nat) (h_chapterAt : Nat) (h_ways : Nat) (h_left : Nat) (h_right : Nat) (x1 : Int32) (v_chapterCount : Int32) (v_bestWorth : Int32) (v_segmentCount : Int32) (v_least : Int32) (v_most : Int32) (v_changes : Nat → Int32) (v_worths : Nat → Int32) (v_cutCounts : Nat → Int32) (v_lasts : Nat → Int32) (v_starts : Nat → Int32) (r_ : Int32) (w_worths : Nat → Int32) (w_cutCounts : Nat → Int32) (w_lasts : Nat → Int32) (hF : F_X0_greatestPrice x1 v_segmentCount v_least v_most v_changes v_worths v_cutCounts v_lasts v_starts = some (r_, w_worths, w_cutCounts, w_lasts)) : Mi l yX0_greatestPrice wsX0_greatestPrice (rmD 4) D (gq_ty cI cJ cZ cO) z [.ref h_t_, .int x1] [(h_t_, .inr (0, [.int v_chapterCount, .int v_bestWorth, .ref h_changes, .ref h_firsts, .ref h_chapterAt, .ref h_worths, .ref h_cutCounts, .ref h_lasts, .ref h_starts, .ref h_ways, .ref h_left, .ref h_right, .int v_segmentCount, .int v_least, .int v_most])), (h_changes, .inl (cI, 31, .inl v_changes)), (h_worths, .inl (cI, 32, .inl v_worths)), (h_cutCounts, .inl (cI, 32, .inl v_cutCounts)), (h_lasts, .inl (cI, 32, .inl v_lasts)), (h_starts, .inl (cI, 33, .inl v_starts))] r_ [(h_t_, .inr (0, [.int v_chapterCount, .int v_bestWorth, .ref h_changes, .ref h_firsts, .ref h_chapterAt, .ref h_worths, .ref h_cutCounts, .ref h_lasts, .ref h_starts, .ref h_ways, .ref h_left, .ref h_right, .int v_segmentCount, .int v_least, .int v_most])), (h_changes, .inl (cI, 31, .inl v_changes)), (h_worths, .inl (cI, 32, .inl w_worths)), (h_cutCounts, .inl (cI, 32, .inl w_cutCounts)), (h_lasts, .inl (cI, 32, .inl w_lasts)), (h_starts, .inl (cI, 33, .inl v_starts))] 0 0 := by
  refine Mi.of (cc := cX0_greatestPrice) (maxL := 4) (by decide) rfl (Nat.le_of_ble_eq_true rfl) ⟨Nat.le_refl 0, Nat.le_refl 0⟩ ?_
  intro p e s m args below meth c A hC ha
  obtain ⟨Q, hQ⟩ : ∃ Q, Q = gq_Qi below D A args s r_ [(h_t_, .inr (0, [.int v_chapterCount, .int v_bestWorth, .ref h_changes, .ref h_firsts, .ref h_chapterAt, .ref h_worths, .ref h_cutCounts, .ref h_lasts, .ref h_starts, .ref h_ways, .ref h_left, .ref h_right, .int v_segmentCount, .int v_least, .int v_most])), (h_changes, .inl (cI, 31, .inl v_changes)), (h_worths, .inl (cI, 32, .inl w_worths)), (h_cutCounts, .inl (cI, 32, .inl w_cutCounts)), (h_lasts, .inl (cI, 32, .inl w_lasts)), (h_starts, .inl (cI, 33, .inl v_starts))] 0 0 := ⟨_, rfl⟩
  rw [← hQ]
  refine gq_loc [(0, .ref h_t_), (1, .int x1)] rfl ?_
  unfold F_X0_greatestPrice at hF
  refine gq_aload_n hC 0 dX0_greatestPrice_0 rfl rfl ?_
  refine gq_iconst hC (0 : Int32) dX0_greatestPrice_1 (by decide) ?_
  obtain ⟨r_1, v_worths_2, v_cutCounts_3, v_lasts_4, hc_, hF⟩ := ob4_e hF
  refine gq_callVi hC [0, 1, 2, 3, 4, 5] [(h_t_, .inr (0, [.int v_chapterCount, .int v_bestWorth, .ref h_changes, .ref h_firsts, .ref h_chapterAt, .ref h_worths, .ref h_cutCounts, .ref h_lasts, .ref h_starts, .ref h_ways, .ref h_left, .ref h_right, .int v_segmentCount, .int v_least, .int v_most])), (h_changes, .inl (cI, 31, .inl v_changes)), (h_worths, .inl (cI, 32, .inl v_worths_2)), (h_cutCounts, .inl (cI, 32, .inl v_cutCounts_3)), (h_lasts, .inl (cI, 32, .inl v_lasts_4)), (h_starts, .inl (cI, 33, .inl v_starts))] [.int (0 : Int32)] [] (k_X0_chaptersAtPrice l D cI cJ cZ cO z h_t_ h_changes h_worths h_cutCounts h_lasts h_starts h_firsts h_chapterAt h_ways h_left h_right (0 : Int32) v_chapterCount v_bestWorth v_segmentCount v_least v_most v_changes v_worths v_cutCounts v_lasts v_starts r_1 v_worths_2 v_cutCounts_3 v_lasts_4 hc_) gX0_greatestPrice_X0_chaptersAtPrice rfl ⟨rfl, rfl⟩ hy_X0_chaptersAtPrice ⟨Nat.le_of_ble_eq_true rfl, Nat.le_of_ble_eq_true rfl⟩ rfl rfl rfl (q0 := 0) rfl rfl rfl (Nat.le_of_ble_eq_true rfl) rfl dX0_greatestPrice_2 rfl rfl ?_
  refine gq_iload_n hC 1 dX0_greatestPrice_5 rfl rfl ?_
  refine gq_icmp_ge hC 11 dX0_greatestPrice_6 (by decide) (fun hc_31 => ?_) (fun hc_31 => ?_)
  · have hF := (if_pos hc_31).symm.trans hF
    refine gq_iconst hC (0 : Int32) dX0_greatestPrice_11 (by decide) ?_
    refine gq_istore_n hC [(2, .int (0 : Int32)), (0, .ref h_t_), (1, .int x1)] dX0_greatestPrice_12 rfl (by decide) rfl ?_
    refine gq_bipush hC (64 : Int32) dX0_greatestPrice_13 (by decide) ?_
    refine gq_istore_n hC [(3, .int (64 : Int32)), (2, .int (0 : Int32)), (0, .ref h_t_), (1, .int x1)] dX0_greatestPrice_15 rfl (by decide) rfl ?_
    have lp16 : ∀ (e_23 : Int32) (e_24 : (Nat → Int32)) (e_25 : (Nat → Int32)) (e_26 : (Nat → Int32)), Gx p l e (rmD 4) s m args below meth c D A 4 Q 0 0 50 [(2, .int e_23)] [] [(h_t_, .inr (0, [.int v_chapterCount, .int v_bestWorth, .ref h_changes, .ref h_firsts, .ref h_chapterAt, .ref h_worths, .ref h_cutCounts, .ref h_lasts, .ref h_starts, .ref h_ways, .ref h_left, .ref h_right, .int v_segmentCount, .int v_least, .int v_most])), (h_changes, .inl (cI, 31, .inl v_changes)), (h_worths, .inl (cI, 32, .inl e_24)), (h_cutCounts, .inl (cI, 32, .inl e_25)), (h_lasts, .inl (cI, 32, .inl e_26)), (h_starts, .inl (cI, 33, .inl v_starts))] → ∀ (N : Nat) (l2_5 : Int32) (l3_6 : Int32) (v_worths_7 : Nat → Int32) (v_cutCounts_8 : Nat → Int32) (v_lasts_9 : Nat → Int32), wh (fun k q => S_X0_greatestPrice_16 x1 v_segmentCount v_least v_most v_changes v_starts k q.1 q.2.1 q.2.2.1 q.2.2.2.1 q.2.2.2.2) N (l2_5, l3_6, v_worths_7, v_cutCounts_8, v_lasts_9) = some (e_23, e_24, e_25, e_26) → Gx p l e (rmD 4) s m args below meth c D A 4 Q 0 0 16 [(0, .ref h_t_), (1, .int x1), (2, .int l2_5), (3, .int l3_6)] [] [(h_t_, .inr (0, [.int v_chapterCount, .int v_bestWorth, .ref h_changes, .ref h_firsts, .ref h_chapterAt, .ref h_worths, .ref h_cutCounts, .ref h_lasts, .ref h_starts, .ref h_ways, .ref h_left, .ref h_right, .int v_segmentCount, .int v_least, .int v_most])), (h_changes, .inl (cI, 31, .inl v_changes)), (h_worths, .inl (cI, 32, .inl v_worths_7)), (h_cutCounts, .inl (cI, 32, .inl v_cutCounts_8)), (h_lasts, .inl (cI, 32, .inl v_lasts_9)), (h_starts, .inl (cI, 33, .inl v_starts))] := by
      intro e_23 e_24 e_25 e_26 hx0 N
      induction N with
      | zero => intro l2_5 l3_6 v_worths_7 v_cutCounts_8 v_lasts_9 hw; exact absurd hw (wh_0 _ _ _)
      | succ N ih =>
        have jb43 : ∀ (l2_10 : Int32) (l3_11 : Int32) (v_worths_12 : Nat → Int32) (v_cutCounts_13 : Nat → Int32) (v_lasts_14 : Nat → Int32), F_X0_greatestPrice_b43 (wh (fun k q => S_X0_greatestPrice_16 x1 v_segmentCount v_least v_most v_changes v_starts k q.1 q.2.1 q.2.2.1 q.2.2.2.1 q.2.2.2.2) N) x1 l2_10 l3_11 v_segmentCount v_least v_most v_changes v_worths_12 v_cutCounts_13 v_lasts_14 v_starts = some (e_23, e_24, e_25, e_26) → Gx p l e (rmD 4) s m args below meth c D A 4 Q 0 0 43 [(0, .ref h_t_), (1, .int x1), (2, .int l2_10), (3, .int l3_11)] [] [(h_t_, .inr (0, [.int v_chapterCount, .int v_bestWorth, .ref h_changes, .ref h_firsts, .ref h_chapterAt, .ref h_worths, .ref h_cutCounts, .ref h_lasts, .ref h_starts, .ref h_ways, .ref h_left, .ref h_right, .int v_segmentCount, .int v_least, .int v_most])), (h_changes, .inl (cI, 31, .inl v_changes)), (h_worths, .inl (cI, 32, .inl v_worths_12)), (h_cutCounts, .inl (cI, 32, .inl v_cutCounts_13)), (h_lasts, .inl (cI, 32, .inl v_lasts_14)), (h_starts, .inl (cI, 33, .inl v_starts))] := by
          intro l2_10 l3_11 v_worths_12 v_cutCounts_13 v_lasts_14 hF
          unfold F_X0_greatestPrice_b43 at hF
          refine gq_iload_n hC 3 dX0_greatestPrice_43 rfl rfl ?_
          refine gq_iconst hC (2 : Int32) dX0_greatestPrice_44 (by decide) ?_
          obtain ⟨hz_15, hF⟩ := gzi_e hF
          refine gq_idiv hC dX0_greatestPrice_45 hz_15 ?_
          refine gq_istore_n hC [(3, .int (l3_11 / (2 : Int32))), (0, .ref h_t_), (1, .int x1), (2, .int l2_10)] dX0_greatestPrice_46 rfl (by decide) rfl ?_
          refine gq_goto hC 16 dX0_greatestPrice_47 (by decide) ?_
          refine gq_sub [(0, .ref h_t_), (1, .int x1), (2, .int l2_10), (3, .int (l3_11 / (2 : Int32)))] [1, 2, 3, 0] rfl ?_
          exact ih l2_10 (l3_11 / (2 : Int32)) v_worths_12 v_cutCounts_13 v_lasts_14 hF
        intro l2_5 l3_6 v_worths_7 v_cutCounts_8 v_lasts_9 hw
        have hF : S_X0_greatestPrice_16 x1 v_segmentCount v_least v_most v_changes v_starts (wh (fun k q => S_X0_greatestPrice_16 x1 v_segmentCount v_least v_most v_changes v_starts k q.1 q.2.1 q.2.2.1 q.2.2.2.1 q.2.2.2.2) N) l2_5 l3_6 v_worths_7 v_cutCounts_8 v_lasts_9 = some (e_23, e_24, e_25, e_26) := hw
        unfold S_X0_greatestPrice_16 at hF
        refine gq_iload_n hC 3 dX0_greatestPrice_16 rfl rfl ?_
        refine gq_if_le hC 50 dX0_greatestPrice_17 (by decide) (fun hc_22 => ?_) (fun hc_22 => ?_)
        · have hF := (if_pos hc_22).symm.trans hF
          refine gq_sub [(2, .int l2_5)] [2] rfl ?_
          cases hF
          exact hx0
        · have hF := (if_neg hc_22).symm.trans hF
          refine gq_iload_n hC 2 dX0_greatestPrice_20 rfl rfl ?_
          refine gq_iload_n hC 3 dX0_greatestPrice_21 rfl rfl ?_
          refine gq_iadd hC dX0_greatestPrice_22 ?_
          refine gq_bipush hC (100 : Int32) dX0_greatestPrice_23 (by decide) ?_
          refine gq_icmp_gt hC 43 dX0_greatestPrice_25 (by decide) (fun hc_21 => ?_) (fun hc_21 => ?_)
          · have hF := (if_pos hc_21).symm.trans hF
            exact jb43 l2_5 l3_6 v_worths_7 v_cutCounts_8 v_lasts_9 hF
          · have hF := (if_neg hc_21).symm.trans hF
            refine gq_aload_n hC 0 dX0_greatestPrice_28 rfl rfl ?_
            refine gq_iload_n hC 2 dX0_greatestPrice_29 rfl rfl ?_
            refine gq_iload_n hC 3 dX0_greatestPrice_30 rfl rfl ?_
            refine gq_iadd hC dX0_greatestPrice_31 ?_
            obtain ⟨r_16, v_worths_17, v_cutCounts_18, v_lasts_19, hc_, hF⟩ := ob4_e hF
            refine gq_callVi hC [0, 1, 2, 3, 4, 5] [(h_t_, .inr (0, [.int v_chapterCount, .int v_bestWorth, .ref h_changes, .ref h_firsts, .ref h_chapterAt, .ref h_worths, .ref h_cutCounts, .ref h_lasts, .ref h_starts, .ref h_ways, .ref h_left, .ref h_right, .int v_segmentCount, .int v_least, .int v_most])), (h_changes, .inl (cI, 31, .inl v_changes)), (h_worths, .inl (cI, 32, .inl v_worths_17)), (h_cutCounts, .inl (cI, 32, .inl v_cutCounts_18)), (h_lasts, .inl (cI, 32, .inl v_lasts_19)), (h_starts, .inl (cI, 33, .inl v_starts))] [.int (l2_5 + l3_6)] [] (k_X0_chaptersAtPrice l D cI cJ cZ cO z h_t_ h_changes h_worths h_cutCounts h_lasts h_starts h_firsts h_chapterAt h_ways h_left h_right (l2_5 + l3_6) v_chapterCount v_bestWorth v_segmentCount v_least v_most v_changes v_worths_7 v_cutCounts_8 v_lasts_9 v_starts r_16 v_worths_17 v_cutCounts_18 v_lasts_19 hc_) gX0_greatestPrice_X0_chaptersAtPrice rfl ⟨rfl, rfl⟩ hy_X0_chaptersAtPrice ⟨Nat.le_of_ble_eq_true rfl, Nat.le_of_ble_eq_true rfl⟩ rfl rfl rfl (q0 := 0) rfl rfl rfl (Nat.le_of_ble_eq_true rfl) rfl dX0_greatestPrice_32 rfl rfl ?_
            refine gq_iload_n hC 1 dX0_greatestPrice_35 rfl rfl ?_
            refine gq_icmp_lt hC 43 dX0_greatestPrice_36 (by decide) (fun hc_20 => ?_) (fun hc_20 => ?_)
            · have hF := (if_pos hc_20).symm.trans hF
              exact jb43 l2_5 l3_6 v_worths_17 v_cutCounts_18 v_lasts_19 hF
            · have hF := (if_neg hc_20).symm.trans hF
              refine gq_iload_n hC 2 dX0_greatestPrice_39 rfl rfl ?_
              refine gq_iload_n hC 3 dX0_greatestPrice_40 rfl rfl ?_
              refine gq_iadd hC dX0_greatestPrice_41 ?_
              refine gq_istore_n hC [(2, .int (l2_5 + l3_6)), (0, .ref h_t_), (1, .int x1), (3, .int l3_6)] dX0_greatestPrice_42 rfl (by decide) rfl ?_
              refine gq_sub [(0, .ref h_t_), (1, .int x1), (2, .int (l2_5 + l3_6)), (3, .int l3_6)] [1, 2, 0, 3] rfl ?_
              exact jb43 (l2_5 + l3_6) l3_6 v_worths_17 v_cutCounts_18 v_lasts_19 hF
    refine gq_sub [(0, .ref h_t_), (1, .int x1), (2, .int (0 : Int32)), (3, .int (64 : Int32))] [2, 3, 1, 0] rfl ?_
    obtain ⟨e_27, e_28, e_29, e_30, hw_, hF⟩ := ob4_e hF
    refine lp16  e_27 e_28 e_29 e_30 ?_ wF (0 : Int32) (64 : Int32) v_worths_2 v_cutCounts_3 v_lasts_4 hw_
    refine gq_iload_n hC 0 dX0_greatestPrice_50 rfl rfl ?_
    cases hF
    rw [hQ]
    exact gq_iret hC rfl dX0_greatestPrice_51
  · have hF := (if_neg hc_31).symm.trans hF
    refine gq_iconst hC (-1 : Int32) dX0_greatestPrice_9 (by decide) ?_
    cases hF
    rw [hQ]
    exact gq_iret hC rfl dX0_greatestPrice_10
theorem hy_X4_distance : yX4_distance.cls = RX4 ∧ yX4_distance.cls ≠ "java/lang/invoke/MethodHandle" ∧ yX4_distance.cls ≠ "java/lang/invoke/VarHandle" ∧ (parseMethodDescriptor yX4_distance.desc).map (fun d => d.parameters.length) = some 3 := by decide +kernel
set_option maxRecDepth 20000 in
set_option maxHeartbeats 4000000 in
theorem k_X4_distance (l : Launch) (D : va_G) (cI cJ cZ cO : ClassId) (z : Nat → Nat)   (h_t_ : Nat) (h_times : Nat) (h_p1 : Nat) (h_p1_wishes : Nat) (h_places : Nat) (h_costs : Nat) (h_cuts : Nat) (h_p1_lengths : Nat) (h_p1_reaches : Nat) (x2 : Int32) (x3 : Int32) (v_bestCost : Int32) (v_boundaryCount : Int32) (v_times : Nat → Int32) (v_p1_slotCount : Int32) (v_p1_wishes : Nat → Int32) (r_ : Int32) (hF : F_X4_distance x2 x3 v_times v_p1_wishes = some r_) : Mi l yX4_distance wsX4_distance (rmD 1) D (gq_ty cI cJ cZ cO) z [.ref h_t_, .ref h_p1, .int x2, .int x3] [(h_t_, .inr (4, [.int v_bestCost, .ref h_places, .ref h_costs, .ref h_times, .ref h_cuts, .int v_boundaryCount])), (h_times, .inl (cI, 31, .inl v_times)), (h_p1, .inr (7, [.int v_p1_slotCount, .ref h_p1_wishes, .ref h_p1_lengths, .ref h_p1_reaches])), (h_p1_wishes, .inl (cI, 5, .inl v_p1_wishes))] r_ [(h_t_, .inr (4, [.int v_bestCost, .ref h_places, .ref h_costs, .ref h_times, .ref h_cuts, .int v_boundaryCount])), (h_times, .inl (cI, 31, .inl v_times)), (h_p1, .inr (7, [.int v_p1_slotCount, .ref h_p1_wishes, .ref h_p1_lengths, .ref h_p1_reaches])), (h_p1_wishes, .inl (cI, 5, .inl v_p1_wishes))] 0 0 := by
  refine Mi.of (cc := cX4_distance) (maxL := 4) (by decide) rfl (Nat.le_of_ble_eq_true rfl) ⟨Nat.le_refl 0, Nat.le_refl 0⟩ ?_
  intro p e s m args below meth c A hC ha
  have hin_X4 : ∀ w ∈ wsX40, w ∈ wsX4_distance := by decide +kernel
  have hin_X7 : ∀ w ∈ wsX70, w ∈ wsX4_distance := by decide +kernel
  have hw_18 : Cond.fieldLink RX4 18 (TX4 3).1 (TX4 3).2.1 (TX4 3).2.2.1 ∈ wsX4_distance := by decide +kernel
  have hw_91 : Cond.fieldLink RX4 91 (TX7 1).1 (TX7 1).2.1 (TX7 1).2.2.1 ∈ wsX4_distance := by decide +kernel
  obtain ⟨Q, hQ⟩ : ∃ Q, Q = gq_Qi below D A args s r_ [(h_t_, .inr (4, [.int v_bestCost, .ref h_places, .ref h_costs, .ref h_times, .ref h_cuts, .int v_boundaryCount])), (h_times, .inl (cI, 31, .inl v_times)), (h_p1, .inr (7, [.int v_p1_slotCount, .ref h_p1_wishes, .ref h_p1_lengths, .ref h_p1_reaches])), (h_p1_wishes, .inl (cI, 5, .inl v_p1_wishes))] 0 0 := ⟨_, rfl⟩
  rw [← hQ]
  refine gq_loc [(0, .ref h_t_), (1, .ref h_p1), (2, .int x2), (3, .int x3)] rfl ?_
  unfold F_X4_distance at hF
  refine gq_aload_n hC 0 dX4_distance_0 rfl rfl ?_
  refine gq_get hC (kf := 3) 0 hin_X4 rfl rfl (by decide) hw_18 rfl dX4_distance_1 ?_
  refine gq_iload_n hC 3 dX4_distance_4 rfl rfl ?_
  obtain ⟨hi_1, hF⟩ := gi_e hF
  refine gq_iald hC 1 0 rfl rfl hi_1 dX4_distance_5 ?_
  refine gq_aload_n hC 1 dX4_distance_6 rfl rfl ?_
  refine gq_get hC (kf := 1) 2 hin_X7 rfl rfl (by decide) hw_91 rfl dX4_distance_7 ?_
  refine gq_iload_n hC 2 dX4_distance_10 rfl rfl ?_
  obtain ⟨hi_2, hF⟩ := gi_e hF
  refine gq_iald hC 3 0 rfl rfl hi_2 dX4_distance_11 ?_
  refine gq_isub hC dX4_distance_12 ?_
  refine gq_mabs hC ⟨by decide +kernel, by decide +kernel, by decide +kernel, by decide +kernel⟩ ⟨Nat.le_of_ble_eq_true rfl, Nat.le_of_ble_eq_true rfl⟩ dX4_distance_13 ?_
  cases hF
  rw [hQ]
  exact gq_iret hC rfl dX4_distance_16
theorem hy_X4_isChoice : yX4_isChoice.cls = RX4 ∧ yX4_isChoice.cls ≠ "java/lang/invoke/MethodHandle" ∧ yX4_isChoice.cls ≠ "java/lang/invoke/VarHandle" ∧ (parseMethodDescriptor yX4_isChoice.desc).map (fun d => d.parameters.length) = some 3 := by decide +kernel
set_option maxRecDepth 20000 in
set_option maxHeartbeats 4000000 in
theorem k_X4_isChoice (l : Launch) (D : va_G) (cI cJ cZ cO : ClassId) (z : Nat → Nat)   (h_t_ : Nat) (h_times : Nat) (h_p1 : Nat) (h_p1_transcript : Nat) (h_p1_transcript_order : Nat) (h_p1_transcript_pauses : Nat) (h_p1_slots : Nat) (h_p1_slots_wishes : Nat) (h_p1_slots_reaches : Nat) (h_p1_settings : Nat) (h_places : Nat) (h_costs : Nat) (h_cuts : Nat) (h_p1_kept : Nat) (h_p1_transcript_durations : Nat) (h_p1_transcript_sizes : Nat) (h_p1_transcript_words : Nat) (h_p1_transcript_names : Nat) (h_p1_slots_lengths : Nat) (x2 : Int32) (x3 : Int32) (v_bestCost : Int32) (v_boundaryCount : Int32) (v_times : Nat → Int32) (v_p1_transcript_segmentCount : Int32) (v_p1_transcript_wordCount : Int32) (v_p1_transcript_order : Nat → Int32) (v_p1_transcript_pauses : Nat → Int32) (v_p1_slots_slotCount : Int32) (v_p1_slots_wishes : Nat → Int32) (v_p1_slots_reaches : Nat → Int32) (v_p1_settings : Nat → Int32) (r_ : Int32) (hF : F_X4_isChoice x2 x3 v_times v_p1_transcript_order v_p1_transcript_pauses v_p1_slots_wishes v_p1_slots_reaches v_p1_settings = some r_) : Mi l yX4_isChoice wsX4_isChoice (rmD 2) D (gq_ty cI cJ cZ cO) z [.ref h_t_, .ref h_p1, .int x2, .int x3] [(h_t_, .inr (4, [.int v_bestCost, .ref h_places, .ref h_costs, .ref h_times, .ref h_cuts, .int v_boundaryCount])), (h_times, .inl (cI, 31, .inl v_times)), (h_p1, .inr (6, [.ref h_p1_transcript, .ref h_p1_slots, .ref h_p1_kept, .ref h_p1_settings])), (h_p1_transcript, .inr (9, [.int v_p1_transcript_segmentCount, .int v_p1_transcript_wordCount, .ref h_p1_transcript_order, .ref h_p1_transcript_durations, .ref h_p1_transcript_pauses, .ref h_p1_transcript_sizes, .ref h_p1_transcript_words, .ref h_p1_transcript_names])), (h_p1_transcript_order, .inl (cI, 32, .inl v_p1_transcript_order)), (h_p1_transcript_pauses, .inl (cI, 32, .inl v_p1_transcript_pauses)), (h_p1_slots, .inr (7, [.int v_p1_slots_slotCount, .ref h_p1_slots_wishes, .ref h_p1_slots_lengths, .ref h_p1_slots_reaches])), (h_p1_slots_wishes, .inl (cI, 5, .inl v_p1_slots_wishes)), (h_p1_slots_reaches, .inl (cI, 5, .inl v_p1_slots_reaches)), (h_p1_settings, .inl (cI, 6, .inl v_p1_settings))] r_ [(h_t_, .inr (4, [.int v_bestCost, .ref h_places, .ref h_costs, .ref h_times, .ref h_cuts, .int v_boundaryCount])), (h_times, .inl (cI, 31, .inl v_times)), (h_p1, .inr (6, [.ref h_p1_transcript, .ref h_p1_slots, .ref h_p1_kept, .ref h_p1_settings])), (h_p1_transcript, .inr (9, [.int v_p1_transcript_segmentCount, .int v_p1_transcript_wordCount, .ref h_p1_transcript_order, .ref h_p1_transcript_durations, .ref h_p1_transcript_pauses, .ref h_p1_transcript_sizes, .ref h_p1_transcript_words, .ref h_p1_transcript_names])), (h_p1_transcript_order, .inl (cI, 32, .inl v_p1_transcript_order)), (h_p1_transcript_pauses, .inl (cI, 32, .inl v_p1_transcript_pauses)), (h_p1_slots, .inr (7, [.int v_p1_slots_slotCount, .ref h_p1_slots_wishes, .ref h_p1_slots_lengths, .ref h_p1_slots_reaches])), (h_p1_slots_wishes, .inl (cI, 5, .inl v_p1_slots_wishes)), (h_p1_slots_reaches, .inl (cI, 5, .inl v_p1_slots_reaches)), (h_p1_settings, .inl (cI, 6, .inl v_p1_settings))] 0 0 := by
  refine Mi.of (cc := cX4_isChoice) (maxL := 4) (by decide) rfl (Nat.le_of_ble_eq_true rfl) ⟨Nat.le_refl 0, Nat.le_refl 0⟩ ?_
  intro p e s m args below meth c A hC ha
  have hin_X6 : ∀ w ∈ wsX60, w ∈ wsX4_isChoice := by decide +kernel
  have hin_X7 : ∀ w ∈ wsX70, w ∈ wsX4_isChoice := by decide +kernel
  have hw_25 : Cond.fieldLink RX4 25 (TX6 0).1 (TX6 0).2.1 (TX6 0).2.2.1 ∈ wsX4_isChoice := by decide +kernel
  have hw_50 : Cond.fieldLink RX4 50 (TX6 1).1 (TX6 1).2.1 (TX6 1).2.2.1 ∈ wsX4_isChoice := by decide +kernel
  have hw_75 : Cond.fieldLink RX4 75 (TX6 3).1 (TX6 3).2.1 (TX6 3).2.2.1 ∈ wsX4_isChoice := by decide +kernel
  have hw_88 : Cond.fieldLink RX4 88 (TX7 3).1 (TX7 3).2.1 (TX7 3).2.2.1 ∈ wsX4_isChoice := by decide +kernel
  obtain ⟨Q, hQ⟩ : ∃ Q, Q = gq_Qi below D A args s r_ [(h_t_, .inr (4, [.int v_bestCost, .ref h_places, .ref h_costs, .ref h_times, .ref h_cuts, .int v_boundaryCount])), (h_times, .inl (cI, 31, .inl v_times)), (h_p1, .inr (6, [.ref h_p1_transcript, .ref h_p1_slots, .ref h_p1_kept, .ref h_p1_settings])), (h_p1_transcript, .inr (9, [.int v_p1_transcript_segmentCount, .int v_p1_transcript_wordCount, .ref h_p1_transcript_order, .ref h_p1_transcript_durations, .ref h_p1_transcript_pauses, .ref h_p1_transcript_sizes, .ref h_p1_transcript_words, .ref h_p1_transcript_names])), (h_p1_transcript_order, .inl (cI, 32, .inl v_p1_transcript_order)), (h_p1_transcript_pauses, .inl (cI, 32, .inl v_p1_transcript_pauses)), (h_p1_slots, .inr (7, [.int v_p1_slots_slotCount, .ref h_p1_slots_wishes, .ref h_p1_slots_lengths, .ref h_p1_slots_reaches])), (h_p1_slots_wishes, .inl (cI, 5, .inl v_p1_slots_wishes)), (h_p1_slots_reaches, .inl (cI, 5, .inl v_p1_slots_reaches)), (h_p1_settings, .inl (cI, 6, .inl v_p1_settings))] 0 0 := ⟨_, rfl⟩
  rw [← hQ]
  refine gq_loc [(0, .ref h_t_), (1, .ref h_p1), (2, .int x2), (3, .int x3)] rfl ?_
  unfold F_X4_isChoice at hF
  refine gq_aload_n hC 1 dX4_isChoice_0 rfl rfl ?_
  refine gq_get hC (kf := 0) 2 hin_X6 rfl rfl (by decide) hw_25 rfl dX4_isChoice_1 ?_
  refine gq_iload_n hC 3 dX4_isChoice_4 rfl rfl ?_
  obtain ⟨r_1, hc_, hF⟩ := ob1_e hF
  refine gq_callVi hC [3, 4, 5] [(h_t_, .inr (4, [.int v_bestCost, .ref h_places, .ref h_costs, .ref h_times, .ref h_cuts, .int v_boundaryCount])), (h_times, .inl (cI, 31, .inl v_times)), (h_p1, .inr (6, [.ref h_p1_transcript, .ref h_p1_slots, .ref h_p1_kept, .ref h_p1_settings])), (h_p1_transcript, .inr (9, [.int v_p1_transcript_segmentCount, .int v_p1_transcript_wordCount, .ref h_p1_transcript_order, .ref h_p1_transcript_durations, .ref h_p1_transcript_pauses, .ref h_p1_transcript_sizes, .ref h_p1_transcript_words, .ref h_p1_transcript_names])), (h_p1_transcript_order, .inl (cI, 32, .inl v_p1_transcript_order)), (h_p1_transcript_pauses, .inl (cI, 32, .inl v_p1_transcript_pauses)), (h_p1_slots, .inr (7, [.int v_p1_slots_slotCount, .ref h_p1_slots_wishes, .ref h_p1_slots_lengths, .ref h_p1_slots_reaches])), (h_p1_slots_wishes, .inl (cI, 5, .inl v_p1_slots_wishes)), (h_p1_slots_reaches, .inl (cI, 5, .inl v_p1_slots_reaches)), (h_p1_settings, .inl (cI, 6, .inl v_p1_settings))] [.int x3] [] (k_X9_pauseOf l D cI cJ cZ cO z h_p1_transcript h_p1_transcript_order h_p1_transcript_pauses h_p1_transcript_durations h_p1_transcript_sizes h_p1_transcript_words h_p1_transcript_names x3 v_p1_transcript_segmentCount v_p1_transcript_wordCount v_p1_transcript_order v_p1_transcript_pauses r_1 hc_) gX4_isChoice_X9_pauseOf rfl ⟨rfl, rfl⟩ hy_X9_pauseOf ⟨Nat.le_of_ble_eq_true rfl, Nat.le_of_ble_eq_true rfl⟩ rfl rfl rfl (q0 := 0) rfl rfl rfl (Nat.le_of_ble_eq_true rfl) rfl dX4_isChoice_5 rfl rfl ?_
  refine gq_aload_n hC 1 dX4_isChoice_8 rfl rfl ?_
  refine gq_get hC (kf := 3) 2 hin_X6 rfl rfl (by decide) hw_75 rfl dX4_isChoice_9 ?_
  refine gq_iconst hC (4 : Int32) dX4_isChoice_12 (by decide) ?_
  obtain ⟨hi_2, hF⟩ := gi_e hF
  refine gq_iald hC 9 0 rfl rfl hi_2 dX4_isChoice_13 ?_
  refine gq_icmp_lt hC 43 dX4_isChoice_14 (by decide) (fun hc_6 => ?_) (fun hc_6 => ?_)
  · have hF := (if_pos hc_6).symm.trans hF
    refine gq_iconst hC (0 : Int32) dX4_isChoice_43 (by decide) ?_
    cases hF
    rw [hQ]
    exact gq_iret hC rfl dX4_isChoice_44
  · have hF := (if_neg hc_6).symm.trans hF
    refine gq_aload_n hC 0 dX4_isChoice_17 rfl rfl ?_
    refine gq_aload_n hC 1 dX4_isChoice_18 rfl rfl ?_
    refine gq_get hC (kf := 1) 2 hin_X6 rfl rfl (by decide) hw_50 rfl dX4_isChoice_19 ?_
    refine gq_iload_n hC 2 dX4_isChoice_22 rfl rfl ?_
    refine gq_iload_n hC 3 dX4_isChoice_23 rfl rfl ?_
    obtain ⟨r_3, hc_, hF⟩ := ob1_e hF
    refine gq_callVi hC [0, 1, 6, 7] [(h_t_, .inr (4, [.int v_bestCost, .ref h_places, .ref h_costs, .ref h_times, .ref h_cuts, .int v_boundaryCount])), (h_times, .inl (cI, 31, .inl v_times)), (h_p1, .inr (6, [.ref h_p1_transcript, .ref h_p1_slots, .ref h_p1_kept, .ref h_p1_settings])), (h_p1_transcript, .inr (9, [.int v_p1_transcript_segmentCount, .int v_p1_transcript_wordCount, .ref h_p1_transcript_order, .ref h_p1_transcript_durations, .ref h_p1_transcript_pauses, .ref h_p1_transcript_sizes, .ref h_p1_transcript_words, .ref h_p1_transcript_names])), (h_p1_transcript_order, .inl (cI, 32, .inl v_p1_transcript_order)), (h_p1_transcript_pauses, .inl (cI, 32, .inl v_p1_transcript_pauses)), (h_p1_slots, .inr (7, [.int v_p1_slots_slotCount, .ref h_p1_slots_wishes, .ref h_p1_slots_lengths, .ref h_p1_slots_reaches])), (h_p1_slots_wishes, .inl (cI, 5, .inl v_p1_slots_wishes)), (h_p1_slots_reaches, .inl (cI, 5, .inl v_p1_slots_reaches)), (h_p1_settings, .inl (cI, 6, .inl v_p1_settings))] [.ref h_p1_slots, .int x2, .int x3] [] (k_X4_distance l D cI cJ cZ cO z h_t_ h_times h_p1_slots h_p1_slots_wishes h_places h_costs h_cuts h_p1_slots_lengths h_p1_slots_reaches x2 x3 v_bestCost v_boundaryCount v_times v_p1_slots_slotCount v_p1_slots_wishes r_3 hc_) gX4_isChoice_X4_distance rfl ⟨rfl, rfl⟩ hy_X4_distance ⟨Nat.le_of_ble_eq_true rfl, Nat.le_of_ble_eq_true rfl⟩ rfl rfl rfl (q0 := 0) rfl rfl rfl (Nat.le_of_ble_eq_true rfl) rfl dX4_isChoice_24 rfl rfl ?_
    refine gq_aload_n hC 1 dX4_isChoice_27 rfl rfl ?_
    refine gq_get hC (kf := 1) 2 hin_X6 rfl rfl (by decide) hw_50 rfl dX4_isChoice_28 ?_
    refine gq_get hC (kf := 3) 6 hin_X7 rfl rfl (by decide) hw_88 rfl dX4_isChoice_31 ?_
    refine gq_iload_n hC 2 dX4_isChoice_34 rfl rfl ?_
    obtain ⟨hi_4, hF⟩ := gi_e hF
    refine gq_iald hC 8 0 rfl rfl hi_4 dX4_isChoice_35 ?_
    refine gq_icmp_gt hC 43 dX4_isChoice_36 (by decide) (fun hc_5 => ?_) (fun hc_5 => ?_)
    · have hF := (if_pos hc_5).symm.trans hF
      refine gq_iconst hC (0 : Int32) dX4_isChoice_43 (by decide) ?_
      cases hF
      rw [hQ]
      exact gq_iret hC rfl dX4_isChoice_44
    · have hF := (if_neg hc_5).symm.trans hF
      refine gq_iconst hC (1 : Int32) dX4_isChoice_39 (by decide) ?_
      refine gq_goto hC 44 dX4_isChoice_40 (by decide) ?_
      cases hF
      rw [hQ]
      exact gq_iret hC rfl dX4_isChoice_44
theorem hy_X4_cheapest : yX4_cheapest.cls = RX4 ∧ yX4_cheapest.cls ≠ "java/lang/invoke/MethodHandle" ∧ yX4_cheapest.cls ≠ "java/lang/invoke/VarHandle" ∧ (parseMethodDescriptor yX4_cheapest.desc).map (fun d => d.parameters.length) = some 3 := by decide +kernel
set_option maxRecDepth 20000 in
set_option maxHeartbeats 4000000 in
theorem k_X4_cheapest (l : Launch) (D : va_G) (cI cJ cZ cO : ClassId) (z : Nat → Nat)   (h_t_ : Nat) (h_costs : Nat) (h_times : Nat) (h_places : Nat) (h_cuts : Nat) (x1 : Int32) (x2 : Int32) (x3 : Int32) (v_bestCost : Int32) (v_boundaryCount : Int32) (v_costs : Nat → Int32) (v_times : Nat → Int32) (r_ : Int32) (hF : F_X4_cheapest x1 x2 x3 v_boundaryCount v_costs v_times = some r_) : Mi l yX4_cheapest wsX4_cheapest (rmD 0) D (gq_ty cI cJ cZ cO) z [.ref h_t_, .int x1, .int x2, .int x3] [(h_t_, .inr (4, [.int v_bestCost, .ref h_places, .ref h_costs, .ref h_times, .ref h_cuts, .int v_boundaryCount])), (h_costs, .inl (cI, 155, .inl v_costs)), (h_times, .inl (cI, 31, .inl v_times))] r_ [(h_t_, .inr (4, [.int v_bestCost, .ref h_places, .ref h_costs, .ref h_times, .ref h_cuts, .int v_boundaryCount])), (h_costs, .inl (cI, 155, .inl v_costs)), (h_times, .inl (cI, 31, .inl v_times))] 0 0 := by
  refine Mi.of (cc := cX4_cheapest) (maxL := 8) (by decide) rfl (Nat.le_of_ble_eq_true rfl) ⟨Nat.le_refl 0, Nat.le_refl 0⟩ ?_
  intro p e s m args below meth c A hC ha
  have hin_X4 : ∀ w ∈ wsX40, w ∈ wsX4_cheapest := by decide +kernel
  have hw_15 : Cond.fieldLink RX4 15 (TX4 2).1 (TX4 2).2.1 (TX4 2).2.2.1 ∈ wsX4_cheapest := by decide +kernel
  have hw_18 : Cond.fieldLink RX4 18 (TX4 3).1 (TX4 3).2.1 (TX4 3).2.2.1 ∈ wsX4_cheapest := by decide +kernel
  have hw_37 : Cond.fieldLink RX4 37 (TX4 5).1 (TX4 5).2.1 (TX4 5).2.2.1 ∈ wsX4_cheapest := by decide +kernel
  obtain ⟨Q, hQ⟩ : ∃ Q, Q = gq_Qi below D A args s r_ [(h_t_, .inr (4, [.int v_bestCost, .ref h_places, .ref h_costs, .ref h_times, .ref h_cuts, .int v_boundaryCount])), (h_costs, .inl (cI, 155, .inl v_costs)), (h_times, .inl (cI, 31, .inl v_times))] 0 0 := ⟨_, rfl⟩
  rw [← hQ]
  refine gq_loc [(0, .ref h_t_), (1, .int x1), (2, .int x2), (3, .int x3)] rfl ?_
  unfold F_X4_cheapest at hF
  refine gq_iconst hC (-1 : Int32) dX4_cheapest_0 (by decide) ?_
  refine gq_istore hC [(4, .int (-1 : Int32)), (0, .ref h_t_), (1, .int x1), (2, .int x2), (3, .int x3)] dX4_cheapest_1 (by decide) rfl ?_
  refine gq_iconst hC (-1 : Int32) dX4_cheapest_3 (by decide) ?_
  refine gq_istore hC [(5, .int (-1 : Int32)), (4, .int (-1 : Int32)), (0, .ref h_t_), (1, .int x1), (2, .int x2), (3, .int x3)] dX4_cheapest_4 (by decide) rfl ?_
  refine gq_iload_n hC 4 dX4_cheapest_6 rfl rfl ?_
  refine gq_istore hC [(6, .int x2), (5, .int (-1 : Int32)), (4, .int (-1 : Int32)), (0, .ref h_t_), (1, .int x1), (2, .int x2), (3, .int x3)] dX4_cheapest_7 (by decide) rfl ?_
  have lp9 : ∀ (e_11 : Int32), Gx p l e (rmD 0) s m args below meth c D A 8 Q 0 0 76 [(4, .int e_11)] [] [(h_t_, .inr (4, [.int v_bestCost, .ref h_places, .ref h_costs, .ref h_times, .ref h_cuts, .int v_boundaryCount])), (h_costs, .inl (cI, 155, .inl v_costs)), (h_times, .inl (cI, 31, .inl v_times))] → ∀ (N : Nat) (l4_1 : Int32) (l5_2 : Int32) (l6_3 : Int32), wh (fun k q => S_X4_cheapest_9 x1 x3 v_boundaryCount v_costs v_times k q.1 q.2.1 q.2.2) N (l4_1, l5_2, l6_3) = some e_11 → Gx p l e (rmD 0) s m args below meth c D A 8 Q 0 0 9 [(0, .ref h_t_), (1, .int x1), (3, .int x3), (4, .int l4_1), (5, .int l5_2), (6, .int l6_3)] [] [(h_t_, .inr (4, [.int v_bestCost, .ref h_places, .ref h_costs, .ref h_times, .ref h_cuts, .int v_boundaryCount])), (h_costs, .inl (cI, 155, .inl v_costs)), (h_times, .inl (cI, 31, .inl v_times))] := by
    intro e_11 hx0 N
    induction N with
    | zero => intro l4_1 l5_2 l6_3 hw; exact absurd hw (wh_0 _ _ _)
    | succ N ih =>
      intro l4_1 l5_2 l6_3 hw
      have hF : S_X4_cheapest_9 x1 x3 v_boundaryCount v_costs v_times (wh (fun k q => S_X4_cheapest_9 x1 x3 v_boundaryCount v_costs v_times k q.1 q.2.1 q.2.2) N) l4_1 l5_2 l6_3 = some e_11 := hw
      unfold S_X4_cheapest_9 at hF
      refine gq_iload hC 5 dX4_cheapest_9 rfl ?_
      refine gq_aload_n hC 0 dX4_cheapest_11 rfl rfl ?_
      refine gq_get hC (kf := 5) 0 hin_X4 rfl rfl (by decide) hw_37 rfl dX4_cheapest_12 ?_
      refine gq_icmp_ge hC 76 dX4_cheapest_15 (by decide) (fun hc_10 => ?_) (fun hc_10 => ?_)
      · have hF := (if_pos hc_10).symm.trans hF
        refine gq_sub [(4, .int l4_1)] [3] rfl ?_
        cases hF
        exact hx0
      · have hF := (if_neg hc_10).symm.trans hF
        refine gq_aload_n hC 0 dX4_cheapest_18 rfl rfl ?_
        refine gq_get hC (kf := 2) 0 hin_X4 rfl rfl (by decide) hw_15 rfl dX4_cheapest_19 ?_
        refine gq_iload_n hC 1 dX4_cheapest_22 rfl rfl ?_
        refine gq_bipush hC (31 : Int32) dX4_cheapest_23 (by decide) ?_
        refine gq_imul hC dX4_cheapest_25 ?_
        refine gq_iload hC 5 dX4_cheapest_26 rfl ?_
        refine gq_iadd hC dX4_cheapest_28 ?_
        obtain ⟨hi_4, hF⟩ := gi_e hF
        refine gq_iald hC 1 0 rfl rfl hi_4 dX4_cheapest_29 ?_
        refine gq_istore hC [(7, .int (v_costs ((x1 * (31 : Int32)) + l6_3).toNatClampNeg)), (0, .ref h_t_), (1, .int x1), (3, .int x3), (4, .int l4_1), (5, .int l5_2), (6, .int l6_3)] dX4_cheapest_30 (by decide) rfl ?_
        refine gq_iload hC 0 dX4_cheapest_32 rfl ?_
        refine gq_iconst hC (-1 : Int32) dX4_cheapest_34 (by decide) ?_
        refine gq_icmp_eq hC 70 dX4_cheapest_35 (by decide) (fun hc_9 => ?_) (fun hc_9 => ?_)
        · have hF := (if_pos hc_9).symm.trans hF
          refine gq_iinc hC 6 (l6_3 + (1 : Int32)) [(6, .int (l6_3 + (1 : Int32))), (7, .int (v_costs ((x1 * (31 : Int32)) + l6_3).toNatClampNeg)), (0, .ref h_t_), (1, .int x1), (3, .int x3), (4, .int l4_1), (5, .int l5_2)] dX4_cheapest_70 rfl rfl (by decide) rfl ?_
          refine gq_goto hC 9 dX4_cheapest_73 (by decide) ?_
          refine gq_sub [(0, .ref h_t_), (1, .int x1), (3, .int x3), (4, .int l4_1), (5, .int l5_2), (6, .int (l6_3 + (1 : Int32)))] [2, 3, 4, 5, 6, 0] rfl ?_
          exact ih l4_1 l5_2 (l6_3 + (1 : Int32)) hF
        · have hF := (if_neg hc_9).symm.trans hF
          refine gq_aload_n hC 1 dX4_cheapest_38 rfl rfl ?_
          refine gq_get hC (kf := 3) 0 hin_X4 rfl rfl (by decide) hw_18 rfl dX4_cheapest_39 ?_
          refine gq_iload hC 6 dX4_cheapest_42 rfl ?_
          obtain ⟨hi_5, hF⟩ := gi_e hF
          refine gq_iald hC 2 0 rfl rfl hi_5 dX4_cheapest_44 ?_
          refine gq_iload_n hC 3 dX4_cheapest_45 rfl rfl ?_
          refine gq_icmp_lt hC 70 dX4_cheapest_46 (by decide) (fun hc_8 => ?_) (fun hc_8 => ?_)
          · have hF := (if_pos hc_8).symm.trans hF
            refine gq_iinc hC 6 (l6_3 + (1 : Int32)) [(6, .int (l6_3 + (1 : Int32))), (7, .int (v_costs ((x1 * (31 : Int32)) + l6_3).toNatClampNeg)), (0, .ref h_t_), (1, .int x1), (3, .int x3), (4, .int l4_1), (5, .int l5_2)] dX4_cheapest_70 rfl rfl (by decide) rfl ?_
            refine gq_goto hC 9 dX4_cheapest_73 (by decide) ?_
            refine gq_sub [(0, .ref h_t_), (1, .int x1), (3, .int x3), (4, .int l4_1), (5, .int l5_2), (6, .int (l6_3 + (1 : Int32)))] [2, 3, 4, 5, 6, 0] rfl ?_
            exact ih l4_1 l5_2 (l6_3 + (1 : Int32)) hF
          · have hF := (if_neg hc_8).symm.trans hF
            refine gq_iload hC 4 dX4_cheapest_49 rfl ?_
            refine gq_iconst hC (-1 : Int32) dX4_cheapest_51 (by decide) ?_
            refine gq_icmp_eq hC 62 dX4_cheapest_52 (by decide) (fun hc_7 => ?_) (fun hc_7 => ?_)
            · have hF := (if_pos hc_7).symm.trans hF
              refine gq_iload hC 6 dX4_cheapest_62 rfl ?_
              refine gq_istore hC [(4, .int l6_3), (7, .int (v_costs ((x1 * (31 : Int32)) + l6_3).toNatClampNeg)), (0, .ref h_t_), (1, .int x1), (3, .int x3), (5, .int l5_2), (6, .int l6_3)] dX4_cheapest_64 (by decide) rfl ?_
              refine gq_iload hC 1 dX4_cheapest_66 rfl ?_
              refine gq_istore hC [(5, .int (v_costs ((x1 * (31 : Int32)) + l6_3).toNatClampNeg)), (4, .int l6_3), (7, .int (v_costs ((x1 * (31 : Int32)) + l6_3).toNatClampNeg)), (0, .ref h_t_), (1, .int x1), (3, .int x3), (6, .int l6_3)] dX4_cheapest_68 (by decide) rfl ?_
              refine gq_iinc hC 6 (l6_3 + (1 : Int32)) [(6, .int (l6_3 + (1 : Int32))), (5, .int (v_costs ((x1 * (31 : Int32)) + l6_3).toNatClampNeg)), (4, .int l6_3), (7, .int (v_costs ((x1 * (31 : Int32)) + l6_3).toNatClampNeg)), (0, .ref h_t_), (1, .int x1), (3, .int x3)] dX4_cheapest_70 rfl rfl (by decide) rfl ?_
              refine gq_goto hC 9 dX4_cheapest_73 (by decide) ?_
              refine gq_sub [(0, .ref h_t_), (1, .int x1), (3, .int x3), (4, .int l6_3), (5, .int (v_costs ((x1 * (31 : Int32)) + l6_3).toNatClampNeg)), (6, .int (l6_3 + (1 : Int32)))] [4, 5, 6, 2, 1, 0] rfl ?_
              exact ih l6_3 (v_costs ((x1 * (31 : Int32)) + l6_3).toNatClampNeg) (l6_3 + (1 : Int32)) hF
            · have hF := (if_neg hc_7).symm.trans hF
              refine gq_iload hC 0 dX4_cheapest_55 rfl ?_
              refine gq_iload hC 5 dX4_cheapest_57 rfl ?_
              refine gq_icmp_ge hC 70 dX4_cheapest_59 (by decide) (fun hc_6 => ?_) (fun hc_6 => ?_)
              · have hF := (if_pos hc_6).symm.trans hF
                refine gq_iinc hC 6 (l6_3 + (1 : Int32)) [(6, .int (l6_3 + (1 : Int32))), (7, .int (v_costs ((x1 * (31 : Int32)) + l6_3).toNatClampNeg)), (0, .ref h_t_), (1, .int x1), (3, .int x3), (4, .int l4_1), (5, .int l5_2)] dX4_cheapest_70 rfl rfl (by decide) rfl ?_
                refine gq_goto hC 9 dX4_cheapest_73 (by decide) ?_
                refine gq_sub [(0, .ref h_t_), (1, .int x1), (3, .int x3), (4, .int l4_1), (5, .int l5_2), (6, .int (l6_3 + (1 : Int32)))] [2, 3, 4, 5, 6, 0] rfl ?_
                exact ih l4_1 l5_2 (l6_3 + (1 : Int32)) hF
              · have hF := (if_neg hc_6).symm.trans hF
                refine gq_iload hC 6 dX4_cheapest_62 rfl ?_
                refine gq_istore hC [(4, .int l6_3), (7, .int (v_costs ((x1 * (31 : Int32)) + l6_3).toNatClampNeg)), (0, .ref h_t_), (1, .int x1), (3, .int x3), (5, .int l5_2), (6, .int l6_3)] dX4_cheapest_64 (by decide) rfl ?_
                refine gq_iload hC 1 dX4_cheapest_66 rfl ?_
                refine gq_istore hC [(5, .int (v_costs ((x1 * (31 : Int32)) + l6_3).toNatClampNeg)), (4, .int l6_3), (7, .int (v_costs ((x1 * (31 : Int32)) + l6_3).toNatClampNeg)), (0, .ref h_t_), (1, .int x1), (3, .int x3), (6, .int l6_3)] dX4_cheapest_68 (by decide) rfl ?_
                refine gq_iinc hC 6 (l6_3 + (1 : Int32)) [(6, .int (l6_3 + (1 : Int32))), (5, .int (v_costs ((x1 * (31 : Int32)) + l6_3).toNatClampNeg)), (4, .int l6_3), (7, .int (v_costs ((x1 * (31 : Int32)) + l6_3).toNatClampNeg)), (0, .ref h_t_), (1, .int x1), (3, .int x3)] dX4_cheapest_70 rfl rfl (by decide) rfl ?_
                refine gq_goto hC 9 dX4_cheapest_73 (by decide) ?_
                refine gq_sub [(0, .ref h_t_), (1, .int x1), (3, .int x3), (4, .int l6_3), (5, .int (v_costs ((x1 * (31 : Int32)) + l6_3).toNatClampNeg)), (6, .int (l6_3 + (1 : Int32)))] [4, 5, 6, 2, 1, 0] rfl ?_
                exact ih l6_3 (v_costs ((x1 * (31 : Int32)) + l6_3).toNatClampNeg) (l6_3 + (1 : Int32)) hF
  refine gq_sub [(0, .ref h_t_), (1, .int x1), (3, .int x3), (4, .int (-1 : Int32)), (5, .int (-1 : Int32)), (6, .int x2)] [3, 4, 6, 2, 1, 0] rfl ?_
  obtain ⟨e_12, hw_, hF⟩ := ob1_e hF
  refine lp9  e_12 ?_ wF (-1 : Int32) (-1 : Int32) x2 hw_
  refine gq_iload hC 0 dX4_cheapest_76 rfl ?_
  cases hF
  rw [hQ]
  exact gq_iret hC rfl dX4_cheapest_78
theorem hy_X4_leastCost : yX4_leastCost.cls = RX4 ∧ yX4_leastCost.cls ≠ "java/lang/invoke/MethodHandle" ∧ yX4_leastCost.cls ≠ "java/lang/invoke/VarHandle" ∧ (parseMethodDescriptor yX4_leastCost.desc).map (fun d => d.parameters.length) = some 3 := by decide +kernel
set_option maxRecDepth 20000 in
set_option maxHeartbeats 4000000 in
theorem k_X4_leastCost (l : Launch) (D : va_G) (cI cJ cZ cO : ClassId) (z : Nat → Nat)   (h_t_ : Nat) (h_costs : Nat) (h_times : Nat) (h_cuts : Nat) (h_p1 : Nat) (h_p1_transcript : Nat) (h_p1_transcript_order : Nat) (h_p1_transcript_pauses : Nat) (h_p1_slots : Nat) (h_p1_slots_wishes : Nat) (h_p1_slots_reaches : Nat) (h_p1_settings : Nat) (h_places : Nat) (h_p1_kept : Nat) (h_p1_transcript_durations : Nat) (h_p1_transcript_sizes : Nat) (h_p1_transcript_words : Nat) (h_p1_transcript_names : Nat) (h_p1_slots_lengths : Nat) (x2 : Int32) (x3 : Int32) (v_bestCost : Int32) (v_boundaryCount : Int32) (v_costs : Nat → Int32) (v_times : Nat → Int32) (v_cuts : Nat → Int32) (v_p1_transcript_segmentCount : Int32) (v_p1_transcript_wordCount : Int32) (v_p1_transcript_order : Nat → Int32) (v_p1_transcript_pauses : Nat → Int32) (v_p1_slots_slotCount : Int32) (v_p1_slots_wishes : Nat → Int32) (v_p1_slots_reaches : Nat → Int32) (v_p1_settings : Nat → Int32) (r_ : Int32) (hF : F_X4_leastCost x2 x3 v_boundaryCount v_costs v_times v_cuts v_p1_transcript_order v_p1_transcript_pauses v_p1_slots_slotCount v_p1_slots_wishes v_p1_slots_reaches v_p1_settings = some r_) : Mi l yX4_leastCost wsX4_leastCost (rmD 3) D (gq_ty cI cJ cZ cO) z [.ref h_t_, .ref h_p1, .int x2, .int x3] [(h_t_, .inr (4, [.int v_bestCost, .ref h_places, .ref h_costs, .ref h_times, .ref h_cuts, .int v_boundaryCount])), (h_costs, .inl (cI, 155, .inl v_costs)), (h_times, .inl (cI, 31, .inl v_times)), (h_cuts, .inl (cZ, 31, .inl v_cuts)), (h_p1, .inr (6, [.ref h_p1_transcript, .ref h_p1_slots, .ref h_p1_kept, .ref h_p1_settings])), (h_p1_transcript, .inr (9, [.int v_p1_transcript_segmentCount, .int v_p1_transcript_wordCount, .ref h_p1_transcript_order, .ref h_p1_transcript_durations, .ref h_p1_transcript_pauses, .ref h_p1_transcript_sizes, .ref h_p1_transcript_words, .ref h_p1_transcript_names])), (h_p1_transcript_order, .inl (cI, 32, .inl v_p1_transcript_order)), (h_p1_transcript_pauses, .inl (cI, 32, .inl v_p1_transcript_pauses)), (h_p1_slots, .inr (7, [.int v_p1_slots_slotCount, .ref h_p1_slots_wishes, .ref h_p1_slots_lengths, .ref h_p1_slots_reaches])), (h_p1_slots_wishes, .inl (cI, 5, .inl v_p1_slots_wishes)), (h_p1_slots_reaches, .inl (cI, 5, .inl v_p1_slots_reaches)), (h_p1_settings, .inl (cI, 6, .inl v_p1_settings))] r_ [(h_t_, .inr (4, [.int v_bestCost, .ref h_places, .ref h_costs, .ref h_times, .ref h_cuts, .int v_boundaryCount])), (h_costs, .inl (cI, 155, .inl v_costs)), (h_times, .inl (cI, 31, .inl v_times)), (h_cuts, .inl (cZ, 31, .inl v_cuts)), (h_p1, .inr (6, [.ref h_p1_transcript, .ref h_p1_slots, .ref h_p1_kept, .ref h_p1_settings])), (h_p1_transcript, .inr (9, [.int v_p1_transcript_segmentCount, .int v_p1_transcript_wordCount, .ref h_p1_transcript_order, .ref h_p1_transcript_durations, .ref h_p1_transcript_pauses, .ref h_p1_transcript_sizes, .ref h_p1_transcript_words, .ref h_p1_transcript_names])), (h_p1_transcript_order, .inl (cI, 32, .inl v_p1_transcript_order)), (h_p1_transcript_pauses, .inl (cI, 32, .inl v_p1_transcript_pauses)), (h_p1_slots, .inr (7, [.int v_p1_slots_slotCount, .ref h_p1_slots_wishes, .ref h_p1_slots_lengths, .ref h_p1_slots_reaches])), (h_p1_slots_wishes, .inl (cI, 5, .inl v_p1_slots_wishes)), (h_p1_slots_reaches, .inl (cI, 5, .inl v_p1_slots_reaches)), (h_p1_settings, .inl (cI, 6, .inl v_p1_settings))] 0 0 := by
  refine Mi.of (cc := cX4_leastCost) (maxL := 6) (by decide) rfl (Nat.le_of_ble_eq_true rfl) ⟨Nat.le_refl 0, Nat.le_refl 0⟩ ?_
  intro p e s m args below meth c A hC ha
  have hin_X4 : ∀ w ∈ wsX40, w ∈ wsX4_leastCost := by decide +kernel
  have hin_X6 : ∀ w ∈ wsX60, w ∈ wsX4_leastCost := by decide +kernel
  have hin_X7 : ∀ w ∈ wsX70, w ∈ wsX4_leastCost := by decide +kernel
  have hw_15 : Cond.fieldLink RX4 15 (TX4 2).1 (TX4 2).2.1 (TX4 2).2.2.1 ∈ wsX4_leastCost := by decide +kernel
  have hw_18 : Cond.fieldLink RX4 18 (TX4 3).1 (TX4 3).2.1 (TX4 3).2.2.1 ∈ wsX4_leastCost := by decide +kernel
  have hw_21 : Cond.fieldLink RX4 21 (TX4 4).1 (TX4 4).2.1 (TX4 4).2.2.1 ∈ wsX4_leastCost := by decide +kernel
  have hw_50 : Cond.fieldLink RX4 50 (TX6 1).1 (TX6 1).2.1 (TX6 1).2.2.1 ∈ wsX4_leastCost := by decide +kernel
  have hw_54 : Cond.fieldLink RX4 54 (TX7 0).1 (TX7 0).2.1 (TX7 0).2.2.1 ∈ wsX4_leastCost := by decide +kernel
  have hw_75 : Cond.fieldLink RX4 75 (TX6 3).1 (TX6 3).2.1 (TX6 3).2.2.1 ∈ wsX4_leastCost := by decide +kernel
  obtain ⟨Q, hQ⟩ : ∃ Q, Q = gq_Qi below D A args s r_ [(h_t_, .inr (4, [.int v_bestCost, .ref h_places, .ref h_costs, .ref h_times, .ref h_cuts, .int v_boundaryCount])), (h_costs, .inl (cI, 155, .inl v_costs)), (h_times, .inl (cI, 31, .inl v_times)), (h_cuts, .inl (cZ, 31, .inl v_cuts)), (h_p1, .inr (6, [.ref h_p1_transcript, .ref h_p1_slots, .ref h_p1_kept, .ref h_p1_settings])), (h_p1_transcript, .inr (9, [.int v_p1_transcript_segmentCount, .int v_p1_transcript_wordCount, .ref h_p1_transcript_order, .ref h_p1_transcript_durations, .ref h_p1_transcript_pauses, .ref h_p1_transcript_sizes, .ref h_p1_transcript_words, .ref h_p1_transcript_names])), (h_p1_transcript_order, .inl (cI, 32, .inl v_p1_transcript_order)), (h_p1_transcript_pauses, .inl (cI, 32, .inl v_p1_transcript_pauses)), (h_p1_slots, .inr (7, [.int v_p1_slots_slotCount, .ref h_p1_slots_wishes, .ref h_p1_slots_lengths, .ref h_p1_slots_reaches])), (h_p1_slots_wishes, .inl (cI, 5, .inl v_p1_slots_wishes)), (h_p1_slots_reaches, .inl (cI, 5, .inl v_p1_slots_reaches)), (h_p1_settings, .inl (cI, 6, .inl v_p1_settings))] 0 0 := ⟨_, rfl⟩
  rw [← hQ]
  refine gq_loc [(0, .ref h_t_), (1, .ref h_p1), (2, .int x2), (3, .int x3)] rfl ?_
  have jb37 : ∀ (st_1 : Int32) (st_2 : Int32), F_X4_leastCost_b37 x2 x3 st_1 st_2 v_boundaryCount v_costs v_times v_p1_slots_slotCount v_p1_settings = some r_ → Gx p l e (rmD 3) s m args below meth c D A 6 Q 0 0 37 [(0, .ref h_t_), (1, .ref h_p1), (2, .int x2), (3, .int x3)] [.int st_1, .int st_2] [(h_t_, .inr (4, [.int v_bestCost, .ref h_places, .ref h_costs, .ref h_times, .ref h_cuts, .int v_boundaryCount])), (h_costs, .inl (cI, 155, .inl v_costs)), (h_times, .inl (cI, 31, .inl v_times)), (h_cuts, .inl (cZ, 31, .inl v_cuts)), (h_p1, .inr (6, [.ref h_p1_transcript, .ref h_p1_slots, .ref h_p1_kept, .ref h_p1_settings])), (h_p1_transcript, .inr (9, [.int v_p1_transcript_segmentCount, .int v_p1_transcript_wordCount, .ref h_p1_transcript_order, .ref h_p1_transcript_durations, .ref h_p1_transcript_pauses, .ref h_p1_transcript_sizes, .ref h_p1_transcript_words, .ref h_p1_transcript_names])), (h_p1_transcript_order, .inl (cI, 32, .inl v_p1_transcript_order)), (h_p1_transcript_pauses, .inl (cI, 32, .inl v_p1_transcript_pauses)), (h_p1_slots, .inr (7, [.int v_p1_slots_slotCount, .ref h_p1_slots_wishes, .ref h_p1_slots_lengths, .ref h_p1_slots_reaches])), (h_p1_slots_wishes, .inl (cI, 5, .inl v_p1_slots_wishes)), (h_p1_slots_reaches, .inl (cI, 5, .inl v_p1_slots_reaches)), (h_p1_settings, .inl (cI, 6, .inl v_p1_settings))] := by
    intro st_1 st_2 hF
    unfold F_X4_leastCost_b37 at hF
    refine gq_iadd hC dX4_leastCost_37 ?_
    refine gq_istore hC [(4, .int (st_2 + st_1)), (0, .ref h_t_), (1, .ref h_p1), (2, .int x2), (3, .int x3)] dX4_leastCost_38 (by decide) rfl ?_
    refine gq_iload_n hC 3 dX4_leastCost_40 rfl rfl ?_
    refine gq_iconst hC (1 : Int32) dX4_leastCost_41 (by decide) ?_
    refine gq_iadd hC dX4_leastCost_42 ?_
    refine gq_aload_n hC 2 dX4_leastCost_43 rfl rfl ?_
    refine gq_get hC (kf := 1) 4 hin_X6 rfl rfl (by decide) hw_50 rfl dX4_leastCost_44 ?_
    refine gq_get hC (kf := 0) 8 hin_X7 rfl rfl (by decide) hw_54 rfl dX4_leastCost_47 ?_
    refine gq_icmp_lt hC 56 dX4_leastCost_50 (by decide) (fun hc_8 => ?_) (fun hc_8 => ?_)
    · have hF := (if_pos hc_8).symm.trans hF
      refine gq_aload_n hC 1 dX4_leastCost_56 rfl rfl ?_
      refine gq_iload_n hC 3 dX4_leastCost_57 rfl rfl ?_
      refine gq_iconst hC (1 : Int32) dX4_leastCost_58 (by decide) ?_
      refine gq_iadd hC dX4_leastCost_59 ?_
      refine gq_iload_n hC 4 dX4_leastCost_60 rfl rfl ?_
      refine gq_iconst hC (1 : Int32) dX4_leastCost_61 (by decide) ?_
      refine gq_iadd hC dX4_leastCost_62 ?_
      refine gq_aload_n hC 1 dX4_leastCost_63 rfl rfl ?_
      refine gq_get hC (kf := 3) 0 hin_X4 rfl rfl (by decide) hw_18 rfl dX4_leastCost_64 ?_
      refine gq_iload_n hC 4 dX4_leastCost_67 rfl rfl ?_
      obtain ⟨hi_3, hF⟩ := gi_e hF
      refine gq_iald hC 2 0 rfl rfl hi_3 dX4_leastCost_68 ?_
      refine gq_aload_n hC 2 dX4_leastCost_69 rfl rfl ?_
      refine gq_get hC (kf := 3) 4 hin_X6 rfl rfl (by decide) hw_75 rfl dX4_leastCost_70 ?_
      refine gq_iconst hC (5 : Int32) dX4_leastCost_73 (by decide) ?_
      obtain ⟨hi_4, hF⟩ := gi_e hF
      refine gq_iald hC 11 0 rfl rfl hi_4 dX4_leastCost_74 ?_
      refine gq_iadd hC dX4_leastCost_75 ?_
      obtain ⟨r_5, hc_, hF⟩ := ob1_e hF
      refine gq_callVi hC [0, 1, 2] [(h_t_, .inr (4, [.int v_bestCost, .ref h_places, .ref h_costs, .ref h_times, .ref h_cuts, .int v_boundaryCount])), (h_costs, .inl (cI, 155, .inl v_costs)), (h_times, .inl (cI, 31, .inl v_times)), (h_cuts, .inl (cZ, 31, .inl v_cuts)), (h_p1, .inr (6, [.ref h_p1_transcript, .ref h_p1_slots, .ref h_p1_kept, .ref h_p1_settings])), (h_p1_transcript, .inr (9, [.int v_p1_transcript_segmentCount, .int v_p1_transcript_wordCount, .ref h_p1_transcript_order, .ref h_p1_transcript_durations, .ref h_p1_transcript_pauses, .ref h_p1_transcript_sizes, .ref h_p1_transcript_words, .ref h_p1_transcript_names])), (h_p1_transcript_order, .inl (cI, 32, .inl v_p1_transcript_order)), (h_p1_transcript_pauses, .inl (cI, 32, .inl v_p1_transcript_pauses)), (h_p1_slots, .inr (7, [.int v_p1_slots_slotCount, .ref h_p1_slots_wishes, .ref h_p1_slots_lengths, .ref h_p1_slots_reaches])), (h_p1_slots_wishes, .inl (cI, 5, .inl v_p1_slots_wishes)), (h_p1_slots_reaches, .inl (cI, 5, .inl v_p1_slots_reaches)), (h_p1_settings, .inl (cI, 6, .inl v_p1_settings))] [.int (x2 + (1 : Int32)), .int (x3 + (1 : Int32)), .int ((v_times x3.toNatClampNeg) + (v_p1_settings (5 : Int32).toNatClampNeg))] [] (k_X4_cheapest l D cI cJ cZ cO z h_t_ h_costs h_times h_places h_cuts (x2 + (1 : Int32)) (x3 + (1 : Int32)) ((v_times x3.toNatClampNeg) + (v_p1_settings (5 : Int32).toNatClampNeg)) v_bestCost v_boundaryCount v_costs v_times r_5 hc_) gX4_leastCost_X4_cheapest rfl ⟨rfl, rfl⟩ hy_X4_cheapest ⟨Nat.le_of_ble_eq_true rfl, Nat.le_of_ble_eq_true rfl⟩ rfl rfl rfl (q0 := 0) rfl rfl rfl (Nat.le_of_ble_eq_true rfl) rfl dX4_leastCost_76 rfl rfl ?_
      refine gq_istore hC [(5, .int r_5), (4, .int (st_2 + st_1)), (0, .ref h_t_), (1, .ref h_p1), (2, .int x2), (3, .int x3)] dX4_leastCost_79 (by decide) rfl ?_
      refine gq_iload hC 0 dX4_leastCost_81 rfl ?_
      refine gq_iconst hC (-1 : Int32) dX4_leastCost_83 (by decide) ?_
      refine gq_icmp_ne hC 91 dX4_leastCost_84 (by decide) (fun hc_7 => ?_) (fun hc_7 => ?_)
      · have hF := (if_neg hc_7).symm.trans hF
        refine gq_iload hC 1 dX4_leastCost_91 rfl ?_
        refine gq_aload_n hC 2 dX4_leastCost_93 rfl rfl ?_
        refine gq_get hC (kf := 2) 0 hin_X4 rfl rfl (by decide) hw_15 rfl dX4_leastCost_94 ?_
        refine gq_iload_n hC 4 dX4_leastCost_97 rfl rfl ?_
        refine gq_iconst hC (1 : Int32) dX4_leastCost_98 (by decide) ?_
        refine gq_iadd hC dX4_leastCost_99 ?_
        refine gq_bipush hC (31 : Int32) dX4_leastCost_100 (by decide) ?_
        refine gq_imul hC dX4_leastCost_102 ?_
        refine gq_iload hC 0 dX4_leastCost_103 rfl ?_
        refine gq_iadd hC dX4_leastCost_105 ?_
        obtain ⟨hi_6, hF⟩ := gi_e hF
        refine gq_iald hC 1 0 rfl rfl hi_6 dX4_leastCost_106 ?_
        refine gq_iadd hC dX4_leastCost_107 ?_
        cases hF
        rw [hQ]
        exact gq_iret hC rfl dX4_leastCost_108
      · have hF := (if_pos hc_7).symm.trans hF
        refine gq_iconst hC (-1 : Int32) dX4_leastCost_87 (by decide) ?_
        refine gq_goto hC 108 dX4_leastCost_88 (by decide) ?_
        cases hF
        rw [hQ]
        exact gq_iret hC rfl dX4_leastCost_108
    · have hF := (if_neg hc_8).symm.trans hF
      refine gq_iload hC 0 dX4_leastCost_53 rfl ?_
      cases hF
      rw [hQ]
      exact gq_iret hC rfl dX4_leastCost_55
  unfold F_X4_leastCost at hF
  refine gq_aload_n hC 0 dX4_leastCost_0 rfl rfl ?_
  refine gq_aload_n hC 1 dX4_leastCost_1 rfl rfl ?_
  refine gq_iload_n hC 2 dX4_leastCost_2 rfl rfl ?_
  refine gq_iload_n hC 3 dX4_leastCost_3 rfl rfl ?_
  obtain ⟨r_9, hc_, hF⟩ := ob1_e hF
  refine gq_callVi hC [0, 2, 4, 5, 6, 7, 8, 9, 10, 11] [(h_t_, .inr (4, [.int v_bestCost, .ref h_places, .ref h_costs, .ref h_times, .ref h_cuts, .int v_boundaryCount])), (h_costs, .inl (cI, 155, .inl v_costs)), (h_times, .inl (cI, 31, .inl v_times)), (h_cuts, .inl (cZ, 31, .inl v_cuts)), (h_p1, .inr (6, [.ref h_p1_transcript, .ref h_p1_slots, .ref h_p1_kept, .ref h_p1_settings])), (h_p1_transcript, .inr (9, [.int v_p1_transcript_segmentCount, .int v_p1_transcript_wordCount, .ref h_p1_transcript_order, .ref h_p1_transcript_durations, .ref h_p1_transcript_pauses, .ref h_p1_transcript_sizes, .ref h_p1_transcript_words, .ref h_p1_transcript_names])), (h_p1_transcript_order, .inl (cI, 32, .inl v_p1_transcript_order)), (h_p1_transcript_pauses, .inl (cI, 32, .inl v_p1_transcript_pauses)), (h_p1_slots, .inr (7, [.int v_p1_slots_slotCount, .ref h_p1_slots_wishes, .ref h_p1_slots_lengths, .ref h_p1_slots_reaches])), (h_p1_slots_wishes, .inl (cI, 5, .inl v_p1_slots_wishes)), (h_p1_slots_reaches, .inl (cI, 5, .inl v_p1_slots_reaches)), (h_p1_settings, .inl (cI, 6, .inl v_p1_settings))] [.ref h_p1, .int x2, .int x3] [] (k_X4_isChoice l D cI cJ cZ cO z h_t_ h_times h_p1 h_p1_transcript h_p1_transcript_order h_p1_transcript_pauses h_p1_slots h_p1_slots_wishes h_p1_slots_reaches h_p1_settings h_places h_costs h_cuts h_p1_kept h_p1_transcript_durations h_p1_transcript_sizes h_p1_transcript_words h_p1_transcript_names h_p1_slots_lengths x2 x3 v_bestCost v_boundaryCount v_times v_p1_transcript_segmentCount v_p1_transcript_wordCount v_p1_transcript_order v_p1_transcript_pauses v_p1_slots_slotCount v_p1_slots_wishes v_p1_slots_reaches v_p1_settings r_9 hc_) gX4_leastCost_X4_isChoice rfl ⟨rfl, rfl⟩ hy_X4_isChoice ⟨Nat.le_of_ble_eq_true rfl, Nat.le_of_ble_eq_true rfl⟩ rfl rfl rfl (q0 := 0) rfl rfl rfl (Nat.le_of_ble_eq_true rfl) rfl dX4_leastCost_4 rfl rfl ?_
  refine gq_if_ne hC 12 dX4_leastCost_7 (by decide) (fun hc_13 => ?_) (fun hc_13 => ?_)
  · have hF := (if_neg hc_13).symm.trans hF
    refine gq_aload_n hC 0 dX4_leastCost_12 rfl rfl ?_
    refine gq_aload_n hC 1 dX4_leastCost_13 rfl rfl ?_
    refine gq_get hC (kf := 1) 4 hin_X6 rfl rfl (by decide) hw_50 rfl dX4_leastCost_14 ?_
    refine gq_iload_n hC 2 dX4_leastCost_17 rfl rfl ?_
    refine gq_iload_n hC 3 dX4_leastCost_18 rfl rfl ?_
    obtain ⟨r_10, hc_, hF⟩ := ob1_e hF
    refine gq_callVi hC [0, 2, 8, 9] [(h_t_, .inr (4, [.int v_bestCost, .ref h_places, .ref h_costs, .ref h_times, .ref h_cuts, .int v_boundaryCount])), (h_costs, .inl (cI, 155, .inl v_costs)), (h_times, .inl (cI, 31, .inl v_times)), (h_cuts, .inl (cZ, 31, .inl v_cuts)), (h_p1, .inr (6, [.ref h_p1_transcript, .ref h_p1_slots, .ref h_p1_kept, .ref h_p1_settings])), (h_p1_transcript, .inr (9, [.int v_p1_transcript_segmentCount, .int v_p1_transcript_wordCount, .ref h_p1_transcript_order, .ref h_p1_transcript_durations, .ref h_p1_transcript_pauses, .ref h_p1_transcript_sizes, .ref h_p1_transcript_words, .ref h_p1_transcript_names])), (h_p1_transcript_order, .inl (cI, 32, .inl v_p1_transcript_order)), (h_p1_transcript_pauses, .inl (cI, 32, .inl v_p1_transcript_pauses)), (h_p1_slots, .inr (7, [.int v_p1_slots_slotCount, .ref h_p1_slots_wishes, .ref h_p1_slots_lengths, .ref h_p1_slots_reaches])), (h_p1_slots_wishes, .inl (cI, 5, .inl v_p1_slots_wishes)), (h_p1_slots_reaches, .inl (cI, 5, .inl v_p1_slots_reaches)), (h_p1_settings, .inl (cI, 6, .inl v_p1_settings))] [.ref h_p1_slots, .int x2, .int x3] [] (k_X4_distance l D cI cJ cZ cO z h_t_ h_times h_p1_slots h_p1_slots_wishes h_places h_costs h_cuts h_p1_slots_lengths h_p1_slots_reaches x2 x3 v_bestCost v_boundaryCount v_times v_p1_slots_slotCount v_p1_slots_wishes r_10 hc_) gX4_leastCost_X4_distance rfl ⟨rfl, rfl⟩ hy_X4_distance ⟨Nat.le_of_ble_eq_true rfl, Nat.le_of_ble_eq_true rfl⟩ rfl rfl rfl (q0 := 0) rfl rfl rfl (Nat.le_of_ble_eq_true rfl) rfl dX4_leastCost_19 rfl rfl ?_
    refine gq_aload_n hC 0 dX4_leastCost_22 rfl rfl ?_
    refine gq_get hC (kf := 4) 0 hin_X4 rfl rfl (by decide) hw_21 rfl dX4_leastCost_23 ?_
    refine gq_iload_n hC 3 dX4_leastCost_26 rfl rfl ?_
    obtain ⟨hi_11, hF⟩ := gi_e hF
    refine gq_zald hC 3 2 rfl rfl hi_11 dX4_leastCost_27 ?_
    refine gq_if_eq hC 35 dX4_leastCost_28 (by decide) (fun hc_12 => ?_) (fun hc_12 => ?_)
    · have hF := (if_pos hc_12).symm.trans hF
      refine gq_bipush hC (20 : Int32) dX4_leastCost_35 (by decide) ?_
      exact jb37 (20 : Int32) r_10 hF
    · have hF := (if_neg hc_12).symm.trans hF
      refine gq_iconst hC (0 : Int32) dX4_leastCost_31 (by decide) ?_
      refine gq_goto hC 37 dX4_leastCost_32 (by decide) ?_
      exact jb37 (0 : Int32) r_10 hF
  · have hF := (if_pos hc_13).symm.trans hF
    refine gq_iconst hC (-1 : Int32) dX4_leastCost_10 (by decide) ?_
    cases hF
    rw [hQ]
    exact gq_iret hC rfl dX4_leastCost_11
theorem hy_X4_takeBest : yX4_takeBest.cls = RX4 ∧ yX4_takeBest.cls ≠ "java/lang/invoke/MethodHandle" ∧ yX4_takeBest.cls ≠ "java/lang/invoke/VarHandle" ∧ (parseMethodDescriptor yX4_takeBest.desc).map (fun d => d.parameters.length) = some 1 := by decide +kernel
set_option maxRecDepth 20000 in
set_option maxHeartbeats 4000000 in
theorem k_X4_takeBest (l : Launch) (D : va_G) (cI cJ cZ cO : ClassId) (z : Nat → Nat)   (h_t_ : Nat) (h_places : Nat) (h_costs : Nat) (h_times : Nat) (h_p1 : Nat) (h_p1_slots : Nat) (h_p1_settings : Nat) (h_cuts : Nat) (h_p1_transcript : Nat) (h_p1_kept : Nat) (h_p1_slots_wishes : Nat) (h_p1_slots_lengths : Nat) (h_p1_slots_reaches : Nat)  (v_bestCost : Int32) (v_boundaryCount : Int32) (v_places : Nat → Int32) (v_costs : Nat → Int32) (v_times : Nat → Int32) (v_p1_slots_slotCount : Int32) (v_p1_settings : Nat → Int32) (w_bestCost : Int32) (w_places : Nat → Int32) (hF : F_X4_takeBest v_bestCost v_boundaryCount v_places v_costs v_times v_p1_slots_slotCount v_p1_settings = some (w_bestCost, w_places)) : Mv l yX4_takeBest wsX4_takeBest (rmD 1) D (gq_ty cI cJ cZ cO) z [.ref h_t_, .ref h_p1] [(h_t_, .inr (4, [.int v_bestCost, .ref h_places, .ref h_costs, .ref h_times, .ref h_cuts, .int v_boundaryCount])), (h_places, .inl (cI, 5, .inl v_places)), (h_costs, .inl (cI, 155, .inl v_costs)), (h_times, .inl (cI, 31, .inl v_times)), (h_p1, .inr (6, [.ref h_p1_transcript, .ref h_p1_slots, .ref h_p1_kept, .ref h_p1_settings])), (h_p1_slots, .inr (7, [.int v_p1_slots_slotCount, .ref h_p1_slots_wishes, .ref h_p1_slots_lengths, .ref h_p1_slots_reaches])), (h_p1_settings, .inl (cI, 6, .inl v_p1_settings))] [(h_t_, .inr (4, [.int w_bestCost, .ref h_places, .ref h_costs, .ref h_times, .ref h_cuts, .int v_boundaryCount])), (h_places, .inl (cI, 5, .inl w_places)), (h_costs, .inl (cI, 155, .inl v_costs)), (h_times, .inl (cI, 31, .inl v_times)), (h_p1, .inr (6, [.ref h_p1_transcript, .ref h_p1_slots, .ref h_p1_kept, .ref h_p1_settings])), (h_p1_slots, .inr (7, [.int v_p1_slots_slotCount, .ref h_p1_slots_wishes, .ref h_p1_slots_lengths, .ref h_p1_slots_reaches])), (h_p1_settings, .inl (cI, 6, .inl v_p1_settings))] 0 0 := by
  refine Mv.of (cc := cX4_takeBest) (maxL := 6) (by decide) rfl (Nat.le_of_ble_eq_true rfl) ⟨Nat.le_refl 0, Nat.le_refl 0⟩ ?_
  intro p e s m args below meth c A hC ha
  have hin_X4 : ∀ w ∈ wsX40, w ∈ wsX4_takeBest := by decide +kernel
  have hin_X6 : ∀ w ∈ wsX60, w ∈ wsX4_takeBest := by decide +kernel
  have hin_X7 : ∀ w ∈ wsX70, w ∈ wsX4_takeBest := by decide +kernel
  have hw_9 : Cond.fieldLink RX4 9 (TX4 1).1 (TX4 1).2.1 (TX4 1).2.2.1 ∈ wsX4_takeBest := by decide +kernel
  have hw_15 : Cond.fieldLink RX4 15 (TX4 2).1 (TX4 2).2.1 (TX4 2).2.2.1 ∈ wsX4_takeBest := by decide +kernel
  have hw_18 : Cond.fieldLink RX4 18 (TX4 3).1 (TX4 3).2.1 (TX4 3).2.2.1 ∈ wsX4_takeBest := by decide +kernel
  have hw_50 : Cond.fieldLink RX4 50 (TX6 1).1 (TX6 1).2.1 (TX6 1).2.2.1 ∈ wsX4_takeBest := by decide +kernel
  have hw_54 : Cond.fieldLink RX4 54 (TX7 0).1 (TX7 0).2.1 (TX7 0).2.2.1 ∈ wsX4_takeBest := by decide +kernel
  have hw_75 : Cond.fieldLink RX4 75 (TX6 3).1 (TX6 3).2.1 (TX6 3).2.2.1 ∈ wsX4_takeBest := by decide +kernel
  have hw_82 : Cond.fieldLink RX4 82 (TX4 0).1 (TX4 0).2.1 (TX4 0).2.2.1 ∈ wsX4_takeBest := by decide +kernel
  obtain ⟨Q, hQ⟩ : ∃ Q, Q = gq_Qv below D A args s [(h_t_, .inr (4, [.int w_bestCost, .ref h_places, .ref h_costs, .ref h_times, .ref h_cuts, .int v_boundaryCount])), (h_places, .inl (cI, 5, .inl w_places)), (h_costs, .inl (cI, 155, .inl v_costs)), (h_times, .inl (cI, 31, .inl v_times)), (h_p1, .inr (6, [.ref h_p1_transcript, .ref h_p1_slots, .ref h_p1_kept, .ref h_p1_settings])), (h_p1_slots, .inr (7, [.int v_p1_slots_slotCount, .ref h_p1_slots_wishes, .ref h_p1_slots_lengths, .ref h_p1_slots_reaches])), (h_p1_settings, .inl (cI, 6, .inl v_p1_settings))] 0 0 := ⟨_, rfl⟩
  rw [← hQ]
  refine gq_loc [(0, .ref h_t_), (1, .ref h_p1)] rfl ?_
  unfold F_X4_takeBest at hF
  refine gq_aload_n hC 0 dX4_takeBest_0 rfl rfl ?_
  refine gq_iconst hC (0 : Int32) dX4_takeBest_1 (by decide) ?_
  refine gq_put1 hC (kf := 0) 0 [(h_t_, .inr (4, [.int (0 : Int32), .ref h_places, .ref h_costs, .ref h_times, .ref h_cuts, .int v_boundaryCount])), (h_places, .inl (cI, 5, .inl v_places)), (h_costs, .inl (cI, 155, .inl v_costs)), (h_times, .inl (cI, 31, .inl v_times)), (h_p1, .inr (6, [.ref h_p1_transcript, .ref h_p1_slots, .ref h_p1_kept, .ref h_p1_settings])), (h_p1_slots, .inr (7, [.int v_p1_slots_slotCount, .ref h_p1_slots_wishes, .ref h_p1_slots_lengths, .ref h_p1_slots_reaches])), (h_p1_settings, .inl (cI, 6, .inl v_p1_settings))] tyX4 tyX4_ok nmX4 hin_X4 rfl rfl (by decide) hw_82 rfl rfl rfl (Nat.le_of_ble_eq_true rfl) dX4_takeBest_2 rfl ?_
  refine gq_iconst hC (0 : Int32) dX4_takeBest_5 (by decide) ?_
  refine gq_istore_n hC [(2, .int (0 : Int32)), (0, .ref h_t_), (1, .ref h_p1)] dX4_takeBest_6 rfl (by decide) rfl ?_
  refine gq_iconst hC (0 : Int32) dX4_takeBest_7 (by decide) ?_
  refine gq_istore_n hC [(3, .int (0 : Int32)), (2, .int (0 : Int32)), (0, .ref h_t_), (1, .ref h_p1)] dX4_takeBest_8 rfl (by decide) rfl ?_
  refine gq_iconst hC (0 : Int32) dX4_takeBest_9 (by decide) ?_
  refine gq_istore hC [(4, .int (0 : Int32)), (3, .int (0 : Int32)), (2, .int (0 : Int32)), (0, .ref h_t_), (1, .ref h_p1)] dX4_takeBest_10 (by decide) rfl ?_
  have lp12 : ∀ (out_ : ((Int32) × (Nat → Int32)) ⊕ ((Int32) × (Nat → Int32))), (∀ (e_18 : (Int32)) (e_19 : (Nat → Int32)), out_ = .inl (e_18, e_19) → Gx p l e (rmD 1) s m args below meth c D A 6 Q 0 0 40 [(0, .ref h_t_)] [] [(h_t_, .inr (4, [.int e_18, .ref h_places, .ref h_costs, .ref h_times, .ref h_cuts, .int v_boundaryCount])), (h_places, .inl (cI, 5, .inl e_19)), (h_costs, .inl (cI, 155, .inl v_costs)), (h_times, .inl (cI, 31, .inl v_times)), (h_p1, .inr (6, [.ref h_p1_transcript, .ref h_p1_slots, .ref h_p1_kept, .ref h_p1_settings])), (h_p1_slots, .inr (7, [.int v_p1_slots_slotCount, .ref h_p1_slots_wishes, .ref h_p1_slots_lengths, .ref h_p1_slots_reaches])), (h_p1_settings, .inl (cI, 6, .inl v_p1_settings))]) → (∀ (e_20 : (Int32)) (e_21 : (Nat → Int32)), out_ = .inr (e_20, e_21) → Gx p l e (rmD 1) s m args below meth c D A 6 Q 0 0 97 [] [] [(h_t_, .inr (4, [.int e_20, .ref h_places, .ref h_costs, .ref h_times, .ref h_cuts, .int v_boundaryCount])), (h_places, .inl (cI, 5, .inl e_21)), (h_costs, .inl (cI, 155, .inl v_costs)), (h_times, .inl (cI, 31, .inl v_times)), (h_p1, .inr (6, [.ref h_p1_transcript, .ref h_p1_slots, .ref h_p1_kept, .ref h_p1_settings])), (h_p1_slots, .inr (7, [.int v_p1_slots_slotCount, .ref h_p1_slots_wishes, .ref h_p1_slots_lengths, .ref h_p1_slots_reaches])), (h_p1_settings, .inl (cI, 6, .inl v_p1_settings))]) → ∀ (N : Nat) (l2_1 : Int32) (l3_2 : Int32) (l4_3 : Int32) (v_bestCost_4 : Int32) (v_places_5 : Nat → Int32), wh (fun k q => S_X4_takeBest_12 v_boundaryCount v_costs v_times v_p1_slots_slotCount v_p1_settings k q.1 q.2.1 q.2.2.1 q.2.2.2.1 q.2.2.2.2) N (l2_1, l3_2, l4_3, v_bestCost_4, v_places_5) = some out_ → Gx p l e (rmD 1) s m args below meth c D A 6 Q 0 0 12 [(0, .ref h_t_), (1, .ref h_p1), (2, .int l2_1), (3, .int l3_2), (4, .int l4_3)] [] [(h_t_, .inr (4, [.int v_bestCost_4, .ref h_places, .ref h_costs, .ref h_times, .ref h_cuts, .int v_boundaryCount])), (h_places, .inl (cI, 5, .inl v_places_5)), (h_costs, .inl (cI, 155, .inl v_costs)), (h_times, .inl (cI, 31, .inl v_times)), (h_p1, .inr (6, [.ref h_p1_transcript, .ref h_p1_slots, .ref h_p1_kept, .ref h_p1_settings])), (h_p1_slots, .inr (7, [.int v_p1_slots_slotCount, .ref h_p1_slots_wishes, .ref h_p1_slots_lengths, .ref h_p1_slots_reaches])), (h_p1_settings, .inl (cI, 6, .inl v_p1_settings))] := by
    intro out_ hx0 hx1 N
    induction N with
    | zero => intro l2_1 l3_2 l4_3 v_bestCost_4 v_places_5 hw; exact absurd hw (wh_0 _ _ _)
    | succ N ih =>
      have jb62 : ∀ (l4_6 : Int32) (l5_7 : Int32) (v_bestCost_8 : Int32) (v_places_9 : Nat → Int32), F_X4_takeBest_b62 (wh (fun k q => S_X4_takeBest_12 v_boundaryCount v_costs v_times v_p1_slots_slotCount v_p1_settings k q.1 q.2.1 q.2.2.1 q.2.2.2.1 q.2.2.2.2) N) l4_6 l5_7 v_bestCost_8 v_boundaryCount v_places_9 v_costs v_times v_p1_slots_slotCount v_p1_settings = some out_ → Gx p l e (rmD 1) s m args below meth c D A 6 Q 0 0 62 [(0, .ref h_t_), (1, .ref h_p1), (4, .int l4_6), (5, .int l5_7)] [] [(h_t_, .inr (4, [.int v_bestCost_8, .ref h_places, .ref h_costs, .ref h_times, .ref h_cuts, .int v_boundaryCount])), (h_places, .inl (cI, 5, .inl v_places_9)), (h_costs, .inl (cI, 155, .inl v_costs)), (h_times, .inl (cI, 31, .inl v_times)), (h_p1, .inr (6, [.ref h_p1_transcript, .ref h_p1_slots, .ref h_p1_kept, .ref h_p1_settings])), (h_p1_slots, .inr (7, [.int v_p1_slots_slotCount, .ref h_p1_slots_wishes, .ref h_p1_slots_lengths, .ref h_p1_slots_reaches])), (h_p1_settings, .inl (cI, 6, .inl v_p1_settings))] := by
        intro l4_6 l5_7 v_bestCost_8 v_places_9 hF
        unfold F_X4_takeBest_b62 at hF
        refine gq_aload_n hC 0 dX4_takeBest_62 rfl rfl ?_
        refine gq_get hC (kf := 1) 0 hin_X4 rfl rfl (by decide) hw_9 rfl dX4_takeBest_63 ?_
        refine gq_iload hC 2 dX4_takeBest_66 rfl ?_
        refine gq_iload hC 3 dX4_takeBest_68 rfl ?_
        obtain ⟨hi_10, hF⟩ := gi_e hF
        refine gq_iast hC 1 0 [(h_t_, .inr (4, [.int v_bestCost_8, .ref h_places, .ref h_costs, .ref h_times, .ref h_cuts, .int v_boundaryCount])), (h_places, .inl (cI, 5, .inl (upd v_places_9 l4_6.toNatClampNeg l5_7))), (h_costs, .inl (cI, 155, .inl v_costs)), (h_times, .inl (cI, 31, .inl v_times)), (h_p1, .inr (6, [.ref h_p1_transcript, .ref h_p1_slots, .ref h_p1_kept, .ref h_p1_settings])), (h_p1_slots, .inr (7, [.int v_p1_slots_slotCount, .ref h_p1_slots_wishes, .ref h_p1_slots_lengths, .ref h_p1_slots_reaches])), (h_p1_settings, .inl (cI, 6, .inl v_p1_settings))] rfl rfl hi_10 dX4_takeBest_70 rfl ?_
        refine gq_iload hC 3 dX4_takeBest_71 rfl ?_
        refine gq_iconst hC (1 : Int32) dX4_takeBest_73 (by decide) ?_
        refine gq_iadd hC dX4_takeBest_74 ?_
        refine gq_istore_n hC [(2, .int (l5_7 + (1 : Int32))), (0, .ref h_t_), (1, .ref h_p1), (4, .int l4_6), (5, .int l5_7)] dX4_takeBest_75 rfl (by decide) rfl ?_
        refine gq_aload_n hC 1 dX4_takeBest_76 rfl rfl ?_
        refine gq_get hC (kf := 3) 0 hin_X4 rfl rfl (by decide) hw_18 rfl dX4_takeBest_77 ?_
        refine gq_iload hC 4 dX4_takeBest_80 rfl ?_
        obtain ⟨hi_11, hF⟩ := gi_e hF
        refine gq_iald hC 3 0 rfl rfl hi_11 dX4_takeBest_82 ?_
        refine gq_aload_n hC 2 dX4_takeBest_83 rfl rfl ?_
        refine gq_get hC (kf := 3) 4 hin_X6 rfl rfl (by decide) hw_75 rfl dX4_takeBest_84 ?_
        refine gq_iconst hC (5 : Int32) dX4_takeBest_87 (by decide) ?_
        obtain ⟨hi_12, hF⟩ := gi_e hF
        refine gq_iald hC 6 0 rfl rfl hi_12 dX4_takeBest_88 ?_
        refine gq_iadd hC dX4_takeBest_89 ?_
        refine gq_istore_n hC [(3, .int ((v_times l5_7.toNatClampNeg) + (v_p1_settings (5 : Int32).toNatClampNeg))), (2, .int (l5_7 + (1 : Int32))), (0, .ref h_t_), (1, .ref h_p1), (4, .int l4_6), (5, .int l5_7)] dX4_takeBest_90 rfl (by decide) rfl ?_
        refine gq_iinc hC 4 (l4_6 + (1 : Int32)) [(4, .int (l4_6 + (1 : Int32))), (3, .int ((v_times l5_7.toNatClampNeg) + (v_p1_settings (5 : Int32).toNatClampNeg))), (2, .int (l5_7 + (1 : Int32))), (0, .ref h_t_), (1, .ref h_p1), (5, .int l5_7)] dX4_takeBest_91 rfl rfl (by decide) rfl ?_
        refine gq_goto hC 12 dX4_takeBest_94 (by decide) ?_
        refine gq_sub [(0, .ref h_t_), (1, .ref h_p1), (2, .int (l5_7 + (1 : Int32))), (3, .int ((v_times l5_7.toNatClampNeg) + (v_p1_settings (5 : Int32).toNatClampNeg))), (4, .int (l4_6 + (1 : Int32)))] [3, 4, 2, 1, 0] rfl ?_
        exact ih (l5_7 + (1 : Int32)) ((v_times l5_7.toNatClampNeg) + (v_p1_settings (5 : Int32).toNatClampNeg)) (l4_6 + (1 : Int32)) v_bestCost_8 (upd v_places_9 l4_6.toNatClampNeg l5_7) hF
      intro l2_1 l3_2 l4_3 v_bestCost_4 v_places_5 hw
      have hF : S_X4_takeBest_12 v_boundaryCount v_costs v_times v_p1_slots_slotCount v_p1_settings (wh (fun k q => S_X4_takeBest_12 v_boundaryCount v_costs v_times v_p1_slots_slotCount v_p1_settings k q.1 q.2.1 q.2.2.1 q.2.2.2.1 q.2.2.2.2) N) l2_1 l3_2 l4_3 v_bestCost_4 v_places_5 = some out_ := hw
      unfold S_X4_takeBest_12 at hF
      refine gq_iload hC 4 dX4_takeBest_12 rfl ?_
      refine gq_aload_n hC 1 dX4_takeBest_14 rfl rfl ?_
      refine gq_get hC (kf := 1) 4 hin_X6 rfl rfl (by decide) hw_50 rfl dX4_takeBest_15 ?_
      refine gq_get hC (kf := 0) 5 hin_X7 rfl rfl (by decide) hw_54 rfl dX4_takeBest_18 ?_
      refine gq_icmp_ge hC 97 dX4_takeBest_21 (by decide) (fun hc_17 => ?_) (fun hc_17 => ?_)
      · have hF := (if_pos hc_17).symm.trans hF
        refine gq_sub [] [] rfl ?_
        exact hx1 _ _ (Option.some.inj hF).symm
      · have hF := (if_neg hc_17).symm.trans hF
        refine gq_aload_n hC 0 dX4_takeBest_24 rfl rfl ?_
        refine gq_iload hC 4 dX4_takeBest_25 rfl ?_
        refine gq_iload_n hC 2 dX4_takeBest_27 rfl rfl ?_
        refine gq_iload_n hC 3 dX4_takeBest_28 rfl rfl ?_
        obtain ⟨r_13, hc_, hF⟩ := ob1_e hF
        refine gq_callVi hC [0, 2, 3] [(h_t_, .inr (4, [.int v_bestCost_4, .ref h_places, .ref h_costs, .ref h_times, .ref h_cuts, .int v_boundaryCount])), (h_places, .inl (cI, 5, .inl v_places_5)), (h_costs, .inl (cI, 155, .inl v_costs)), (h_times, .inl (cI, 31, .inl v_times)), (h_p1, .inr (6, [.ref h_p1_transcript, .ref h_p1_slots, .ref h_p1_kept, .ref h_p1_settings])), (h_p1_slots, .inr (7, [.int v_p1_slots_slotCount, .ref h_p1_slots_wishes, .ref h_p1_slots_lengths, .ref h_p1_slots_reaches])), (h_p1_settings, .inl (cI, 6, .inl v_p1_settings))] [.int l4_3, .int l2_1, .int l3_2] [] (k_X4_cheapest l D cI cJ cZ cO z h_t_ h_costs h_times h_places h_cuts l4_3 l2_1 l3_2 v_bestCost_4 v_boundaryCount v_costs v_times r_13 hc_) gX4_takeBest_X4_cheapest rfl ⟨rfl, rfl⟩ hy_X4_cheapest ⟨Nat.le_of_ble_eq_true rfl, Nat.le_of_ble_eq_true rfl⟩ rfl rfl rfl (q0 := 0) rfl rfl rfl (Nat.le_of_ble_eq_true rfl) rfl dX4_takeBest_29 rfl rfl ?_
        refine gq_istore hC [(5, .int r_13), (0, .ref h_t_), (1, .ref h_p1), (2, .int l2_1), (3, .int l3_2), (4, .int l4_3)] dX4_takeBest_32 (by decide) rfl ?_
        refine gq_iload hC 0 dX4_takeBest_34 rfl ?_
        refine gq_iconst hC (-1 : Int32) dX4_takeBest_36 (by decide) ?_
        refine gq_icmp_ne hC 46 dX4_takeBest_37 (by decide) (fun hc_16 => ?_) (fun hc_16 => ?_)
        · have hF := (if_neg hc_16).symm.trans hF
          refine gq_iload hC 5 dX4_takeBest_46 rfl ?_
          refine gq_if_ne hC 62 dX4_takeBest_48 (by decide) (fun hc_15 => ?_) (fun hc_15 => ?_)
          · have hF := (if_neg hc_15).symm.trans hF
            refine gq_sub [(0, .ref h_t_), (1, .ref h_p1), (4, .int l4_3), (5, .int r_13)] [1, 2, 5, 0] rfl ?_
            exact jb62 l4_3 r_13 v_bestCost_4 v_places_5 hF
          · have hF := (if_pos hc_15).symm.trans hF
            refine gq_aload_n hC 1 dX4_takeBest_51 rfl rfl ?_
            refine gq_aload_n hC 1 dX4_takeBest_52 rfl rfl ?_
            refine gq_get hC (kf := 2) 0 hin_X4 rfl rfl (by decide) hw_15 rfl dX4_takeBest_53 ?_
            refine gq_iload hC 0 dX4_takeBest_56 rfl ?_
            obtain ⟨hi_14, hF⟩ := gi_e hF
            refine gq_iald hC 2 0 rfl rfl hi_14 dX4_takeBest_58 ?_
            refine gq_put1 hC (kf := 0) 0 [(h_t_, .inr (4, [.int (v_costs r_13.toNatClampNeg), .ref h_places, .ref h_costs, .ref h_times, .ref h_cuts, .int v_boundaryCount])), (h_places, .inl (cI, 5, .inl v_places_5)), (h_costs, .inl (cI, 155, .inl v_costs)), (h_times, .inl (cI, 31, .inl v_times)), (h_p1, .inr (6, [.ref h_p1_transcript, .ref h_p1_slots, .ref h_p1_kept, .ref h_p1_settings])), (h_p1_slots, .inr (7, [.int v_p1_slots_slotCount, .ref h_p1_slots_wishes, .ref h_p1_slots_lengths, .ref h_p1_slots_reaches])), (h_p1_settings, .inl (cI, 6, .inl v_p1_settings))] tyX4 tyX4_ok nmX4 hin_X4 rfl rfl (by decide) hw_82 rfl rfl rfl (Nat.le_of_ble_eq_true rfl) dX4_takeBest_59 rfl ?_
            refine gq_sub [(0, .ref h_t_), (1, .ref h_p1), (4, .int l4_3), (5, .int r_13)] [1, 2, 5, 0] rfl ?_
            exact jb62 l4_3 r_13 (v_costs r_13.toNatClampNeg) v_places_5 hF
        · have hF := (if_pos hc_16).symm.trans hF
          refine gq_sub [(0, .ref h_t_)] [1] rfl ?_
          exact hx0 _ _ (Option.some.inj hF).symm
  refine gq_sub [(0, .ref h_t_), (1, .ref h_p1), (2, .int (0 : Int32)), (3, .int (0 : Int32)), (4, .int (0 : Int32))] [3, 4, 2, 1, 0] rfl ?_
  obtain ⟨o_, hw_, hF⟩ := ob1_e hF
  refine lp12  o_ ?_ ?_ wF (0 : Int32) (0 : Int32) (0 : Int32) (0 : Int32) v_places hw_
  · intro e_22 e_23 ho_24
    subst ho_24
    have hF : (some ((-1 : Int32), e_23)) = some _ := hF
    refine gq_aload_n hC 0 dX4_takeBest_40 rfl rfl ?_
    refine gq_iconst hC (-1 : Int32) dX4_takeBest_41 (by decide) ?_
    refine gq_put1 hC (kf := 0) 0 [(h_t_, .inr (4, [.int (-1 : Int32), .ref h_places, .ref h_costs, .ref h_times, .ref h_cuts, .int v_boundaryCount])), (h_places, .inl (cI, 5, .inl e_23)), (h_costs, .inl (cI, 155, .inl v_costs)), (h_times, .inl (cI, 31, .inl v_times)), (h_p1, .inr (6, [.ref h_p1_transcript, .ref h_p1_slots, .ref h_p1_kept, .ref h_p1_settings])), (h_p1_slots, .inr (7, [.int v_p1_slots_slotCount, .ref h_p1_slots_wishes, .ref h_p1_slots_lengths, .ref h_p1_slots_reaches])), (h_p1_settings, .inl (cI, 6, .inl v_p1_settings))] tyX4 tyX4_ok nmX4 hin_X4 rfl rfl (by decide) hw_82 rfl rfl rfl (Nat.le_of_ble_eq_true rfl) dX4_takeBest_42 rfl ?_
    cases hF
    rw [hQ]
    exact gq_vret hC dX4_takeBest_45
  · intro e_25 e_26 ho_27
    subst ho_27
    have hF : (some (e_25, e_26)) = some _ := hF
    cases hF
    rw [hQ]
    exact gq_vret hC dX4_takeBest_97
theorem hy_X4_update : yX4_update.cls = RX4 ∧ yX4_update.cls ≠ "java/lang/invoke/MethodHandle" ∧ yX4_update.cls ≠ "java/lang/invoke/VarHandle" ∧ (parseMethodDescriptor yX4_update.desc).map (fun d => d.parameters.length) = some 2 := by decide +kernel
set_option maxRecDepth 20000 in
set_option maxHeartbeats 4000000 in
theorem k_X4_update (l : Launch) (D : va_G) (cI cJ cZ cO : ClassId) (z : Nat → Nat)   (h_t_ : Nat) (h_places : Nat) (h_costs : Nat) (h_times : Nat) (h_cuts : Nat) (h_p1 : Nat) (h_p1_transcript : Nat) (h_p1_transcript_order : Nat) (h_p1_transcript_pauses : Nat) (h_p1_slots : Nat) (h_p1_slots_wishes : Nat) (h_p1_slots_reaches : Nat) (h_p1_settings : Nat) (h_p2 : Nat) (h_p2_chapterAt : Nat) (h_p2_starts : Nat) (h_p1_kept : Nat) (h_p1_transcript_durations : Nat) (h_p1_transcript_sizes : Nat) (h_p1_transcript_words : Nat) (h_p1_transcript_names : Nat) (h_p1_slots_lengths : Nat) (h_p2_changes : Nat) (h_p2_firsts : Nat) (h_p2_worths : Nat) (h_p2_cutCounts : Nat) (h_p2_lasts : Nat) (h_p2_ways : Nat) (h_p2_left : Nat) (h_p2_right : Nat)  (v_bestCost : Int32) (v_boundaryCount : Int32) (v_places : Nat → Int32) (v_costs : Nat → Int32) (v_times : Nat → Int32) (v_cuts : Nat → Int32) (v_p1_transcript_segmentCount : Int32) (v_p1_transcript_wordCount : Int32) (v_p1_transcript_order : Nat → Int32) (v_p1_transcript_pauses : Nat → Int32) (v_p1_slots_slotCount : Int32) (v_p1_slots_wishes : Nat → Int32) (v_p1_slots_reaches : Nat → Int32) (v_p1_settings : Nat → Int32) (v_p2_chapterCount : Int32) (v_p2_bestWorth : Int32) (v_p2_segmentCount : Int32) (v_p2_least : Int32) (v_p2_most : Int32) (v_p2_chapterAt : Nat → Int32) (v_p2_starts : Nat → Int32) (w_bestCost : Int32) (w_boundaryCount : Int32) (w_places : Nat → Int32) (w_costs : Nat → Int32) (w_times : Nat → Int32) (w_cuts : Nat → Int32) (hF : F_X4_update v_bestCost v_boundaryCount v_places v_costs v_times v_cuts v_p1_transcript_segmentCount v_p1_transcript_order v_p1_transcript_pauses v_p1_slots_slotCount v_p1_slots_wishes v_p1_slots_reaches v_p1_settings v_p2_chapterCount v_p2_chapterAt v_p2_starts = some (w_bestCost, w_boundaryCount, w_places, w_costs, w_times, w_cuts)) : Mv l yX4_update wsX4_update (rmD 4) D (gq_ty cI cJ cZ cO) z [.ref h_t_, .ref h_p1, .ref h_p2] [(h_t_, .inr (4, [.int v_bestCost, .ref h_places, .ref h_costs, .ref h_times, .ref h_cuts, .int v_boundaryCount])), (h_places, .inl (cI, 5, .inl v_places)), (h_costs, .inl (cI, 155, .inl v_costs)), (h_times, .inl (cI, 31, .inl v_times)), (h_cuts, .inl (cZ, 31, .inl v_cuts)), (h_p1, .inr (6, [.ref h_p1_transcript, .ref h_p1_slots, .ref h_p1_kept, .ref h_p1_settings])), (h_p1_transcript, .inr (9, [.int v_p1_transcript_segmentCount, .int v_p1_transcript_wordCount, .ref h_p1_transcript_order, .ref h_p1_transcript_durations, .ref h_p1_transcript_pauses, .ref h_p1_transcript_sizes, .ref h_p1_transcript_words, .ref h_p1_transcript_names])), (h_p1_transcript_order, .inl (cI, 32, .inl v_p1_transcript_order)), (h_p1_transcript_pauses, .inl (cI, 32, .inl v_p1_transcript_pauses)), (h_p1_slots, .inr (7, [.int v_p1_slots_slotCount, .ref h_p1_slots_wishes, .ref h_p1_slots_lengths, .ref h_p1_slots_reaches])), (h_p1_slots_wishes, .inl (cI, 5, .inl v_p1_slots_wishes)), (h_p1_slots_reaches, .inl (cI, 5, .inl v_p1_slots_reaches)), (h_p1_settings, .inl (cI, 6, .inl v_p1_settings)), (h_p2, .inr (0, [.int v_p2_chapterCount, .int v_p2_bestWorth, .ref h_p2_changes, .ref h_p2_firsts, .ref h_p2_chapterAt, .ref h_p2_worths, .ref h_p2_cutCounts, .ref h_p2_lasts, .ref h_p2_starts, .ref h_p2_ways, .ref h_p2_left, .ref h_p2_right, .int v_p2_segmentCount, .int v_p2_least, .int v_p2_most])), (h_p2_chapterAt, .inl (cI, 32, .inl v_p2_chapterAt)), (h_p2_starts, .inl (cI, 33, .inl v_p2_starts))] [(h_t_, .inr (4, [.int w_bestCost, .ref h_places, .ref h_costs, .ref h_times, .ref h_cuts, .int w_boundaryCount])), (h_places, .inl (cI, 5, .inl w_places)), (h_costs, .inl (cI, 155, .inl w_costs)), (h_times, .inl (cI, 31, .inl w_times)), (h_cuts, .inl (cZ, 31, .inl w_cuts)), (h_p1, .inr (6, [.ref h_p1_transcript, .ref h_p1_slots, .ref h_p1_kept, .ref h_p1_settings])), (h_p1_transcript, .inr (9, [.int v_p1_transcript_segmentCount, .int v_p1_transcript_wordCount, .ref h_p1_transcript_order, .ref h_p1_transcript_durations, .ref h_p1_transcript_pauses, .ref h_p1_transcript_sizes, .ref h_p1_transcript_words, .ref h_p1_transcript_names])), (h_p1_transcript_order, .inl (cI, 32, .inl v_p1_transcript_order)), (h_p1_transcript_pauses, .inl (cI, 32, .inl v_p1_transcript_pauses)), (h_p1_slots, .inr (7, [.int v_p1_slots_slotCount, .ref h_p1_slots_wishes, .ref h_p1_slots_lengths, .ref h_p1_slots_reaches])), (h_p1_slots_wishes, .inl (cI, 5, .inl v_p1_slots_wishes)), (h_p1_slots_reaches, .inl (cI, 5, .inl v_p1_slots_reaches)), (h_p1_settings, .inl (cI, 6, .inl v_p1_settings)), (h_p2, .inr (0, [.int v_p2_chapterCount, .int v_p2_bestWorth, .ref h_p2_changes, .ref h_p2_firsts, .ref h_p2_chapterAt, .ref h_p2_worths, .ref h_p2_cutCounts, .ref h_p2_lasts, .ref h_p2_starts, .ref h_p2_ways, .ref h_p2_left, .ref h_p2_right, .int v_p2_segmentCount, .int v_p2_least, .int v_p2_most])), (h_p2_chapterAt, .inl (cI, 32, .inl v_p2_chapterAt)), (h_p2_starts, .inl (cI, 33, .inl v_p2_starts))] 0 0 := by
  refine Mv.of (cc := cX4_update) (maxL := 5) (by decide) rfl (Nat.le_of_ble_eq_true rfl) ⟨Nat.le_refl 0, Nat.le_refl 0⟩ ?_
  intro p e s m args below meth c A hC ha
  have hin_X4 : ∀ w ∈ wsX40, w ∈ wsX4_update := by decide +kernel
  have hin_X6 : ∀ w ∈ wsX60, w ∈ wsX4_update := by decide +kernel
  have hin_X7 : ∀ w ∈ wsX70, w ∈ wsX4_update := by decide +kernel
  have hw_15 : Cond.fieldLink RX4 15 (TX4 2).1 (TX4 2).2.1 (TX4 2).2.2.1 ∈ wsX4_update := by decide +kernel
  have hw_18 : Cond.fieldLink RX4 18 (TX4 3).1 (TX4 3).2.1 (TX4 3).2.2.1 ∈ wsX4_update := by decide +kernel
  have hw_21 : Cond.fieldLink RX4 21 (TX4 4).1 (TX4 4).2.1 (TX4 4).2.2.1 ∈ wsX4_update := by decide +kernel
  have hw_25 : Cond.fieldLink RX4 25 (TX6 0).1 (TX6 0).2.1 (TX6 0).2.2.1 ∈ wsX4_update := by decide +kernel
  have hw_37 : Cond.fieldLink RX4 37 (TX4 5).1 (TX4 5).2.1 (TX4 5).2.2.1 ∈ wsX4_update := by decide +kernel
  have hw_50 : Cond.fieldLink RX4 50 (TX6 1).1 (TX6 1).2.1 (TX6 1).2.2.1 ∈ wsX4_update := by decide +kernel
  have hw_54 : Cond.fieldLink RX4 54 (TX7 0).1 (TX7 0).2.1 (TX7 0).2.2.1 ∈ wsX4_update := by decide +kernel
  obtain ⟨Q, hQ⟩ : ∃ Q, Q = gq_Qv below D A args s [(h_t_, .inr (4, [.int w_bestCost, .ref h_places, .ref h_costs, .ref h_times, .ref h_cuts, .int w_boundaryCount])), (h_places, .inl (cI, 5, .inl w_places)), (h_costs, .inl (cI, 155, .inl w_costs)), (h_times, .inl (cI, 31, .inl w_times)), (h_cuts, .inl (cZ, 31, .inl w_cuts)), (h_p1, .inr (6, [.ref h_p1_transcript, .ref h_p1_slots, .ref h_p1_kept, .ref h_p1_settings])), (h_p1_transcript, .inr (9, [.int v_p1_transcript_segmentCount, .int v_p1_transcript_wordCount, .ref h_p1_transcript_order, .ref h_p1_transcript_durations, .ref h_p1_transcript_pauses, .ref h_p1_transcript_sizes, .ref h_p1_transcript_words, .ref h_p1_transcript_names])), (h_p1_transcript_order, .inl (cI, 32, .inl v_p1_transcript_order)), (h_p1_transcript_pauses, .inl (cI, 32, .inl v_p1_transcript_pauses)), (h_p1_slots, .inr (7, [.int v_p1_slots_slotCount, .ref h_p1_slots_wishes, .ref h_p1_slots_lengths, .ref h_p1_slots_reaches])), (h_p1_slots_wishes, .inl (cI, 5, .inl v_p1_slots_wishes)), (h_p1_slots_reaches, .inl (cI, 5, .inl v_p1_slots_reaches)), (h_p1_settings, .inl (cI, 6, .inl v_p1_settings)), (h_p2, .inr (0, [.int v_p2_chapterCount, .int v_p2_bestWorth, .ref h_p2_changes, .ref h_p2_firsts, .ref h_p2_chapterAt, .ref h_p2_worths, .ref h_p2_cutCounts, .ref h_p2_lasts, .ref h_p2_starts, .ref h_p2_ways, .ref h_p2_left, .ref h_p2_right, .int v_p2_segmentCount, .int v_p2_least, .int v_p2_most])), (h_p2_chapterAt, .inl (cI, 32, .inl v_p2_chapterAt)), (h_p2_starts, .inl (cI, 33, .inl v_p2_starts))] 0 0 := ⟨_, rfl⟩
  rw [← hQ]
  refine gq_loc [(0, .ref h_t_), (1, .ref h_p1), (2, .ref h_p2)] rfl ?_
  unfold F_X4_update at hF
  refine gq_aload_n hC 0 dX4_update_0 rfl rfl ?_
  refine gq_aload_n hC 1 dX4_update_1 rfl rfl ?_
  refine gq_get hC (kf := 0) 5 hin_X6 rfl rfl (by decide) hw_25 rfl dX4_update_2 ?_
  obtain ⟨r_1, hc_, hF⟩ := ob1_e hF
  refine gq_callVi hC [6] [(h_t_, .inr (4, [.int v_bestCost, .ref h_places, .ref h_costs, .ref h_times, .ref h_cuts, .int v_boundaryCount])), (h_places, .inl (cI, 5, .inl v_places)), (h_costs, .inl (cI, 155, .inl v_costs)), (h_times, .inl (cI, 31, .inl v_times)), (h_cuts, .inl (cZ, 31, .inl v_cuts)), (h_p1, .inr (6, [.ref h_p1_transcript, .ref h_p1_slots, .ref h_p1_kept, .ref h_p1_settings])), (h_p1_transcript, .inr (9, [.int v_p1_transcript_segmentCount, .int v_p1_transcript_wordCount, .ref h_p1_transcript_order, .ref h_p1_transcript_durations, .ref h_p1_transcript_pauses, .ref h_p1_transcript_sizes, .ref h_p1_transcript_words, .ref h_p1_transcript_names])), (h_p1_transcript_order, .inl (cI, 32, .inl v_p1_transcript_order)), (h_p1_transcript_pauses, .inl (cI, 32, .inl v_p1_transcript_pauses)), (h_p1_slots, .inr (7, [.int v_p1_slots_slotCount, .ref h_p1_slots_wishes, .ref h_p1_slots_lengths, .ref h_p1_slots_reaches])), (h_p1_slots_wishes, .inl (cI, 5, .inl v_p1_slots_wishes)), (h_p1_slots_reaches, .inl (cI, 5, .inl v_p1_slots_reaches)), (h_p1_settings, .inl (cI, 6, .inl v_p1_settings)), (h_p2, .inr (0, [.int v_p2_chapterCount, .int v_p2_bestWorth, .ref h_p2_changes, .ref h_p2_firsts, .ref h_p2_chapterAt, .ref h_p2_worths, .ref h_p2_cutCounts, .ref h_p2_lasts, .ref h_p2_starts, .ref h_p2_ways, .ref h_p2_left, .ref h_p2_right, .int v_p2_segmentCount, .int v_p2_least, .int v_p2_most])), (h_p2_chapterAt, .inl (cI, 32, .inl v_p2_chapterAt)), (h_p2_starts, .inl (cI, 33, .inl v_p2_starts))] [] [.ref h_t_] (k_X9_boundaryCount l D cI cJ cZ cO z h_p1_transcript h_p1_transcript_order h_p1_transcript_durations h_p1_transcript_pauses h_p1_transcript_sizes h_p1_transcript_words h_p1_transcript_names v_p1_transcript_segmentCount v_p1_transcript_wordCount r_1 hc_) gX4_update_X9_boundaryCount rfl ⟨rfl, rfl⟩ hy_X9_boundaryCount ⟨Nat.le_of_ble_eq_true rfl, Nat.le_of_ble_eq_true rfl⟩ rfl rfl rfl (q0 := 0) rfl rfl rfl (Nat.le_of_ble_eq_true rfl) rfl dX4_update_5 rfl rfl ?_
  refine gq_put1 hC (kf := 5) 0 [(h_t_, .inr (4, [.int v_bestCost, .ref h_places, .ref h_costs, .ref h_times, .ref h_cuts, .int r_1])), (h_places, .inl (cI, 5, .inl v_places)), (h_costs, .inl (cI, 155, .inl v_costs)), (h_times, .inl (cI, 31, .inl v_times)), (h_cuts, .inl (cZ, 31, .inl v_cuts)), (h_p1, .inr (6, [.ref h_p1_transcript, .ref h_p1_slots, .ref h_p1_kept, .ref h_p1_settings])), (h_p1_transcript, .inr (9, [.int v_p1_transcript_segmentCount, .int v_p1_transcript_wordCount, .ref h_p1_transcript_order, .ref h_p1_transcript_durations, .ref h_p1_transcript_pauses, .ref h_p1_transcript_sizes, .ref h_p1_transcript_words, .ref h_p1_transcript_names])), (h_p1_transcript_order, .inl (cI, 32, .inl v_p1_transcript_order)), (h_p1_transcript_pauses, .inl (cI, 32, .inl v_p1_transcript_pauses)), (h_p1_slots, .inr (7, [.int v_p1_slots_slotCount, .ref h_p1_slots_wishes, .ref h_p1_slots_lengths, .ref h_p1_slots_reaches])), (h_p1_slots_wishes, .inl (cI, 5, .inl v_p1_slots_wishes)), (h_p1_slots_reaches, .inl (cI, 5, .inl v_p1_slots_reaches)), (h_p1_settings, .inl (cI, 6, .inl v_p1_settings)), (h_p2, .inr (0, [.int v_p2_chapterCount, .int v_p2_bestWorth, .ref h_p2_changes, .ref h_p2_firsts, .ref h_p2_chapterAt, .ref h_p2_worths, .ref h_p2_cutCounts, .ref h_p2_lasts, .ref h_p2_starts, .ref h_p2_ways, .ref h_p2_left, .ref h_p2_right, .int v_p2_segmentCount, .int v_p2_least, .int v_p2_most])), (h_p2_chapterAt, .inl (cI, 32, .inl v_p2_chapterAt)), (h_p2_starts, .inl (cI, 33, .inl v_p2_starts))] tyX4 tyX4_ok nmX4 hin_X4 rfl rfl (by decide) hw_37 rfl rfl rfl (Nat.le_of_ble_eq_true rfl) dX4_update_8 rfl ?_
  refine gq_iconst hC (0 : Int32) dX4_update_11 (by decide) ?_
  refine gq_istore_n hC [(3, .int (0 : Int32)), (0, .ref h_t_), (1, .ref h_p1), (2, .ref h_p2)] dX4_update_12 rfl (by decide) rfl ?_
  have lp13 : ∀ (v_bestCost_3 : Int32) (v_boundaryCount_4 : Int32) (v_places_5 : Nat → Int32) (v_costs_6 : Nat → Int32), ∀ (e_14 : (Nat → Int32)) (e_15 : (Nat → Int32)), Gx p l e (rmD 4) s m args below meth c D A 5 Q 0 0 49 [(0, .ref h_t_), (1, .ref h_p1)] [] [(h_t_, .inr (4, [.int v_bestCost_3, .ref h_places, .ref h_costs, .ref h_times, .ref h_cuts, .int v_boundaryCount_4])), (h_places, .inl (cI, 5, .inl v_places_5)), (h_costs, .inl (cI, 155, .inl v_costs_6)), (h_times, .inl (cI, 31, .inl e_14)), (h_cuts, .inl (cZ, 31, .inl e_15)), (h_p1, .inr (6, [.ref h_p1_transcript, .ref h_p1_slots, .ref h_p1_kept, .ref h_p1_settings])), (h_p1_transcript, .inr (9, [.int v_p1_transcript_segmentCount, .int v_p1_transcript_wordCount, .ref h_p1_transcript_order, .ref h_p1_transcript_durations, .ref h_p1_transcript_pauses, .ref h_p1_transcript_sizes, .ref h_p1_transcript_words, .ref h_p1_transcript_names])), (h_p1_transcript_order, .inl (cI, 32, .inl v_p1_transcript_order)), (h_p1_transcript_pauses, .inl (cI, 32, .inl v_p1_transcript_pauses)), (h_p1_slots, .inr (7, [.int v_p1_slots_slotCount, .ref h_p1_slots_wishes, .ref h_p1_slots_lengths, .ref h_p1_slots_reaches])), (h_p1_slots_wishes, .inl (cI, 5, .inl v_p1_slots_wishes)), (h_p1_slots_reaches, .inl (cI, 5, .inl v_p1_slots_reaches)), (h_p1_settings, .inl (cI, 6, .inl v_p1_settings)), (h_p2, .inr (0, [.int v_p2_chapterCount, .int v_p2_bestWorth, .ref h_p2_changes, .ref h_p2_firsts, .ref h_p2_chapterAt, .ref h_p2_worths, .ref h_p2_cutCounts, .ref h_p2_lasts, .ref h_p2_starts, .ref h_p2_ways, .ref h_p2_left, .ref h_p2_right, .int v_p2_segmentCount, .int v_p2_least, .int v_p2_most])), (h_p2_chapterAt, .inl (cI, 32, .inl v_p2_chapterAt)), (h_p2_starts, .inl (cI, 33, .inl v_p2_starts))] → ∀ (N : Nat) (l3_2 : Int32) (v_times_7 : Nat → Int32) (v_cuts_8 : Nat → Int32), wh (fun k q => S_X4_update_13 v_bestCost_3 v_boundaryCount_4 v_places_5 v_costs_6 v_p1_transcript_order v_p1_transcript_pauses v_p1_slots_slotCount v_p1_slots_wishes v_p1_slots_reaches v_p1_settings v_p2_chapterCount v_p2_chapterAt v_p2_starts k q.1 q.2.1 q.2.2) N (l3_2, v_times_7, v_cuts_8) = some (e_14, e_15) → Gx p l e (rmD 4) s m args below meth c D A 5 Q 0 0 13 [(0, .ref h_t_), (1, .ref h_p1), (2, .ref h_p2), (3, .int l3_2)] [] [(h_t_, .inr (4, [.int v_bestCost_3, .ref h_places, .ref h_costs, .ref h_times, .ref h_cuts, .int v_boundaryCount_4])), (h_places, .inl (cI, 5, .inl v_places_5)), (h_costs, .inl (cI, 155, .inl v_costs_6)), (h_times, .inl (cI, 31, .inl v_times_7)), (h_cuts, .inl (cZ, 31, .inl v_cuts_8)), (h_p1, .inr (6, [.ref h_p1_transcript, .ref h_p1_slots, .ref h_p1_kept, .ref h_p1_settings])), (h_p1_transcript, .inr (9, [.int v_p1_transcript_segmentCount, .int v_p1_transcript_wordCount, .ref h_p1_transcript_order, .ref h_p1_transcript_durations, .ref h_p1_transcript_pauses, .ref h_p1_transcript_sizes, .ref h_p1_transcript_words, .ref h_p1_transcript_names])), (h_p1_transcript_order, .inl (cI, 32, .inl v_p1_transcript_order)), (h_p1_transcript_pauses, .inl (cI, 32, .inl v_p1_transcript_pauses)), (h_p1_slots, .inr (7, [.int v_p1_slots_slotCount, .ref h_p1_slots_wishes, .ref h_p1_slots_lengths, .ref h_p1_slots_reaches])), (h_p1_slots_wishes, .inl (cI, 5, .inl v_p1_slots_wishes)), (h_p1_slots_reaches, .inl (cI, 5, .inl v_p1_slots_reaches)), (h_p1_settings, .inl (cI, 6, .inl v_p1_settings)), (h_p2, .inr (0, [.int v_p2_chapterCount, .int v_p2_bestWorth, .ref h_p2_changes, .ref h_p2_firsts, .ref h_p2_chapterAt, .ref h_p2_worths, .ref h_p2_cutCounts, .ref h_p2_lasts, .ref h_p2_starts, .ref h_p2_ways, .ref h_p2_left, .ref h_p2_right, .int v_p2_segmentCount, .int v_p2_least, .int v_p2_most])), (h_p2_chapterAt, .inl (cI, 32, .inl v_p2_chapterAt)), (h_p2_starts, .inl (cI, 33, .inl v_p2_starts))] := by
    intro v_bestCost_3 v_boundaryCount_4 v_places_5 v_costs_6 e_14 e_15 hx0 N
    induction N with
    | zero => intro l3_2 v_times_7 v_cuts_8 hw; exact absurd hw (wh_0 _ _ _)
    | succ N ih =>
      intro l3_2 v_times_7 v_cuts_8 hw
      have hF : S_X4_update_13 v_bestCost_3 v_boundaryCount_4 v_places_5 v_costs_6 v_p1_transcript_order v_p1_transcript_pauses v_p1_slots_slotCount v_p1_slots_wishes v_p1_slots_reaches v_p1_settings v_p2_chapterCount v_p2_chapterAt v_p2_starts (wh (fun k q => S_X4_update_13 v_bestCost_3 v_boundaryCount_4 v_places_5 v_costs_6 v_p1_transcript_order v_p1_transcript_pauses v_p1_slots_slotCount v_p1_slots_wishes v_p1_slots_reaches v_p1_settings v_p2_chapterCount v_p2_chapterAt v_p2_starts k q.1 q.2.1 q.2.2) N) l3_2 v_times_7 v_cuts_8 = some (e_14, e_15) := hw
      unfold S_X4_update_13 at hF
      refine gq_iload_n hC 3 dX4_update_13 rfl rfl ?_
      refine gq_aload_n hC 0 dX4_update_14 rfl rfl ?_
      refine gq_get hC (kf := 5) 0 hin_X4 rfl rfl (by decide) hw_37 rfl dX4_update_15 ?_
      refine gq_icmp_ge hC 49 dX4_update_18 (by decide) (fun hc_13 => ?_) (fun hc_13 => ?_)
      · have hF := (if_pos hc_13).symm.trans hF
        refine gq_sub [(0, .ref h_t_), (1, .ref h_p1)] [0, 1] rfl ?_
        cases hF
        exact hx0
      · have hF := (if_neg hc_13).symm.trans hF
        refine gq_aload_n hC 0 dX4_update_21 rfl rfl ?_
        refine gq_get hC (kf := 3) 0 hin_X4 rfl rfl (by decide) hw_18 rfl dX4_update_22 ?_
        refine gq_iload_n hC 3 dX4_update_25 rfl rfl ?_
        refine gq_aload_n hC 2 dX4_update_26 rfl rfl ?_
        refine gq_iload_n hC 3 dX4_update_27 rfl rfl ?_
        obtain ⟨r_9, hc_, hF⟩ := ob1_e hF
        refine gq_callVi hC [13, 15] [(h_t_, .inr (4, [.int v_bestCost_3, .ref h_places, .ref h_costs, .ref h_times, .ref h_cuts, .int v_boundaryCount_4])), (h_places, .inl (cI, 5, .inl v_places_5)), (h_costs, .inl (cI, 155, .inl v_costs_6)), (h_times, .inl (cI, 31, .inl v_times_7)), (h_cuts, .inl (cZ, 31, .inl v_cuts_8)), (h_p1, .inr (6, [.ref h_p1_transcript, .ref h_p1_slots, .ref h_p1_kept, .ref h_p1_settings])), (h_p1_transcript, .inr (9, [.int v_p1_transcript_segmentCount, .int v_p1_transcript_wordCount, .ref h_p1_transcript_order, .ref h_p1_transcript_durations, .ref h_p1_transcript_pauses, .ref h_p1_transcript_sizes, .ref h_p1_transcript_words, .ref h_p1_transcript_names])), (h_p1_transcript_order, .inl (cI, 32, .inl v_p1_transcript_order)), (h_p1_transcript_pauses, .inl (cI, 32, .inl v_p1_transcript_pauses)), (h_p1_slots, .inr (7, [.int v_p1_slots_slotCount, .ref h_p1_slots_wishes, .ref h_p1_slots_lengths, .ref h_p1_slots_reaches])), (h_p1_slots_wishes, .inl (cI, 5, .inl v_p1_slots_wishes)), (h_p1_slots_reaches, .inl (cI, 5, .inl v_p1_slots_reaches)), (h_p1_settings, .inl (cI, 6, .inl v_p1_settings)), (h_p2, .inr (0, [.int v_p2_chapterCount, .int v_p2_bestWorth, .ref h_p2_changes, .ref h_p2_firsts, .ref h_p2_chapterAt, .ref h_p2_worths, .ref h_p2_cutCounts, .ref h_p2_lasts, .ref h_p2_starts, .ref h_p2_ways, .ref h_p2_left, .ref h_p2_right, .int v_p2_segmentCount, .int v_p2_least, .int v_p2_most])), (h_p2_chapterAt, .inl (cI, 32, .inl v_p2_chapterAt)), (h_p2_starts, .inl (cI, 33, .inl v_p2_starts))] [.int l3_2] [.int l3_2, .ref h_times] (k_X0_timeOf l D cI cJ cZ cO z h_p2 h_p2_starts h_p2_changes h_p2_firsts h_p2_chapterAt h_p2_worths h_p2_cutCounts h_p2_lasts h_p2_ways h_p2_left h_p2_right l3_2 v_p2_chapterCount v_p2_bestWorth v_p2_segmentCount v_p2_least v_p2_most v_p2_starts r_9 hc_) gX4_update_X0_timeOf rfl ⟨rfl, rfl⟩ hy_X0_timeOf ⟨Nat.le_of_ble_eq_true rfl, Nat.le_of_ble_eq_true rfl⟩ rfl rfl rfl (q0 := 0) rfl rfl rfl (Nat.le_of_ble_eq_true rfl) rfl dX4_update_28 rfl rfl ?_
        obtain ⟨hi_10, hF⟩ := gi_e hF
        refine gq_iast hC 3 0 [(h_t_, .inr (4, [.int v_bestCost_3, .ref h_places, .ref h_costs, .ref h_times, .ref h_cuts, .int v_boundaryCount_4])), (h_places, .inl (cI, 5, .inl v_places_5)), (h_costs, .inl (cI, 155, .inl v_costs_6)), (h_times, .inl (cI, 31, .inl (upd v_times_7 l3_2.toNatClampNeg r_9))), (h_cuts, .inl (cZ, 31, .inl v_cuts_8)), (h_p1, .inr (6, [.ref h_p1_transcript, .ref h_p1_slots, .ref h_p1_kept, .ref h_p1_settings])), (h_p1_transcript, .inr (9, [.int v_p1_transcript_segmentCount, .int v_p1_transcript_wordCount, .ref h_p1_transcript_order, .ref h_p1_transcript_durations, .ref h_p1_transcript_pauses, .ref h_p1_transcript_sizes, .ref h_p1_transcript_words, .ref h_p1_transcript_names])), (h_p1_transcript_order, .inl (cI, 32, .inl v_p1_transcript_order)), (h_p1_transcript_pauses, .inl (cI, 32, .inl v_p1_transcript_pauses)), (h_p1_slots, .inr (7, [.int v_p1_slots_slotCount, .ref h_p1_slots_wishes, .ref h_p1_slots_lengths, .ref h_p1_slots_reaches])), (h_p1_slots_wishes, .inl (cI, 5, .inl v_p1_slots_wishes)), (h_p1_slots_reaches, .inl (cI, 5, .inl v_p1_slots_reaches)), (h_p1_settings, .inl (cI, 6, .inl v_p1_settings)), (h_p2, .inr (0, [.int v_p2_chapterCount, .int v_p2_bestWorth, .ref h_p2_changes, .ref h_p2_firsts, .ref h_p2_chapterAt, .ref h_p2_worths, .ref h_p2_cutCounts, .ref h_p2_lasts, .ref h_p2_starts, .ref h_p2_ways, .ref h_p2_left, .ref h_p2_right, .int v_p2_segmentCount, .int v_p2_least, .int v_p2_most])), (h_p2_chapterAt, .inl (cI, 32, .inl v_p2_chapterAt)), (h_p2_starts, .inl (cI, 33, .inl v_p2_starts))] rfl rfl hi_10 dX4_update_31 rfl ?_
        refine gq_aload_n hC 0 dX4_update_32 rfl rfl ?_
        refine gq_get hC (kf := 4) 0 hin_X4 rfl rfl (by decide) hw_21 rfl dX4_update_33 ?_
        refine gq_iload_n hC 3 dX4_update_36 rfl rfl ?_
        refine gq_aload_n hC 2 dX4_update_37 rfl rfl ?_
        refine gq_iload_n hC 3 dX4_update_38 rfl rfl ?_
        obtain ⟨r_11, hc_, hF⟩ := ob1_e hF
        refine gq_callVi hC [13, 14] [(h_t_, .inr (4, [.int v_bestCost_3, .ref h_places, .ref h_costs, .ref h_times, .ref h_cuts, .int v_boundaryCount_4])), (h_places, .inl (cI, 5, .inl v_places_5)), (h_costs, .inl (cI, 155, .inl v_costs_6)), (h_times, .inl (cI, 31, .inl (upd v_times_7 l3_2.toNatClampNeg r_9))), (h_cuts, .inl (cZ, 31, .inl v_cuts_8)), (h_p1, .inr (6, [.ref h_p1_transcript, .ref h_p1_slots, .ref h_p1_kept, .ref h_p1_settings])), (h_p1_transcript, .inr (9, [.int v_p1_transcript_segmentCount, .int v_p1_transcript_wordCount, .ref h_p1_transcript_order, .ref h_p1_transcript_durations, .ref h_p1_transcript_pauses, .ref h_p1_transcript_sizes, .ref h_p1_transcript_words, .ref h_p1_transcript_names])), (h_p1_transcript_order, .inl (cI, 32, .inl v_p1_transcript_order)), (h_p1_transcript_pauses, .inl (cI, 32, .inl v_p1_transcript_pauses)), (h_p1_slots, .inr (7, [.int v_p1_slots_slotCount, .ref h_p1_slots_wishes, .ref h_p1_slots_lengths, .ref h_p1_slots_reaches])), (h_p1_slots_wishes, .inl (cI, 5, .inl v_p1_slots_wishes)), (h_p1_slots_reaches, .inl (cI, 5, .inl v_p1_slots_reaches)), (h_p1_settings, .inl (cI, 6, .inl v_p1_settings)), (h_p2, .inr (0, [.int v_p2_chapterCount, .int v_p2_bestWorth, .ref h_p2_changes, .ref h_p2_firsts, .ref h_p2_chapterAt, .ref h_p2_worths, .ref h_p2_cutCounts, .ref h_p2_lasts, .ref h_p2_starts, .ref h_p2_ways, .ref h_p2_left, .ref h_p2_right, .int v_p2_segmentCount, .int v_p2_least, .int v_p2_most])), (h_p2_chapterAt, .inl (cI, 32, .inl v_p2_chapterAt)), (h_p2_starts, .inl (cI, 33, .inl v_p2_starts))] [.int l3_2] [.int l3_2, .ref h_cuts] (k_X0_isCut l D cI cJ cZ cO z h_p2 h_p2_chapterAt h_p2_changes h_p2_firsts h_p2_worths h_p2_cutCounts h_p2_lasts h_p2_starts h_p2_ways h_p2_left h_p2_right l3_2 v_p2_chapterCount v_p2_bestWorth v_p2_segmentCount v_p2_least v_p2_most v_p2_chapterAt r_11 hc_) gX4_update_X0_isCut rfl ⟨rfl, rfl⟩ hy_X0_isCut ⟨Nat.le_of_ble_eq_true rfl, Nat.le_of_ble_eq_true rfl⟩ rfl rfl rfl (q0 := 0) rfl rfl rfl (Nat.le_of_ble_eq_true rfl) rfl dX4_update_39 rfl rfl ?_
        obtain ⟨hi_12, hF⟩ := gi_e hF
        refine gq_zast hC 4 2 [(h_t_, .inr (4, [.int v_bestCost_3, .ref h_places, .ref h_costs, .ref h_times, .ref h_cuts, .int v_boundaryCount_4])), (h_places, .inl (cI, 5, .inl v_places_5)), (h_costs, .inl (cI, 155, .inl v_costs_6)), (h_times, .inl (cI, 31, .inl (upd v_times_7 l3_2.toNatClampNeg r_9))), (h_cuts, .inl (cZ, 31, .inl (upd v_cuts_8 l3_2.toNatClampNeg (vp_nar .boolean r_11)))), (h_p1, .inr (6, [.ref h_p1_transcript, .ref h_p1_slots, .ref h_p1_kept, .ref h_p1_settings])), (h_p1_transcript, .inr (9, [.int v_p1_transcript_segmentCount, .int v_p1_transcript_wordCount, .ref h_p1_transcript_order, .ref h_p1_transcript_durations, .ref h_p1_transcript_pauses, .ref h_p1_transcript_sizes, .ref h_p1_transcript_words, .ref h_p1_transcript_names])), (h_p1_transcript_order, .inl (cI, 32, .inl v_p1_transcript_order)), (h_p1_transcript_pauses, .inl (cI, 32, .inl v_p1_transcript_pauses)), (h_p1_slots, .inr (7, [.int v_p1_slots_slotCount, .ref h_p1_slots_wishes, .ref h_p1_slots_lengths, .ref h_p1_slots_reaches])), (h_p1_slots_wishes, .inl (cI, 5, .inl v_p1_slots_wishes)), (h_p1_slots_reaches, .inl (cI, 5, .inl v_p1_slots_reaches)), (h_p1_settings, .inl (cI, 6, .inl v_p1_settings)), (h_p2, .inr (0, [.int v_p2_chapterCount, .int v_p2_bestWorth, .ref h_p2_changes, .ref h_p2_firsts, .ref h_p2_chapterAt, .ref h_p2_worths, .ref h_p2_cutCounts, .ref h_p2_lasts, .ref h_p2_starts, .ref h_p2_ways, .ref h_p2_left, .ref h_p2_right, .int v_p2_segmentCount, .int v_p2_least, .int v_p2_most])), (h_p2_chapterAt, .inl (cI, 32, .inl v_p2_chapterAt)), (h_p2_starts, .inl (cI, 33, .inl v_p2_starts))] rfl rfl hi_12 dX4_update_42 rfl ?_
        refine gq_iinc hC 3 (l3_2 + (1 : Int32)) [(3, .int (l3_2 + (1 : Int32))), (0, .ref h_t_), (1, .ref h_p1), (2, .ref h_p2)] dX4_update_43 rfl rfl (by decide) rfl ?_
        refine gq_goto hC 13 dX4_update_46 (by decide) ?_
        refine gq_sub [(0, .ref h_t_), (1, .ref h_p1), (2, .ref h_p2), (3, .int (l3_2 + (1 : Int32)))] [1, 2, 3, 0] rfl ?_
        exact ih (l3_2 + (1 : Int32)) (upd v_times_7 l3_2.toNatClampNeg r_9) (upd v_cuts_8 l3_2.toNatClampNeg (vp_nar .boolean r_11)) hF
  refine gq_sub [(0, .ref h_t_), (1, .ref h_p1), (2, .ref h_p2), (3, .int (0 : Int32))] [1, 2, 3, 0] rfl ?_
  obtain ⟨e_16, e_17, hw_, hF⟩ := ob2_e hF
  refine lp13 v_bestCost r_1 v_places v_costs e_16 e_17 ?_ wF (0 : Int32) v_times v_cuts hw_
  refine gq_aload_n hC 1 dX4_update_49 rfl rfl ?_
  refine gq_get hC (kf := 1) 5 hin_X6 rfl rfl (by decide) hw_50 rfl dX4_update_50 ?_
  refine gq_get hC (kf := 0) 9 hin_X7 rfl rfl (by decide) hw_54 rfl dX4_update_53 ?_
  refine gq_iconst hC (1 : Int32) dX4_update_56 (by decide) ?_
  refine gq_isub hC dX4_update_57 ?_
  refine gq_istore_n hC [(3, .int (v_p1_slots_slotCount - (1 : Int32))), (0, .ref h_t_), (1, .ref h_p1)] dX4_update_58 rfl (by decide) rfl ?_
  have lp59 : ∀ (v_bestCost_19 : Int32) (v_boundaryCount_20 : Int32) (v_places_21 : Nat → Int32) (v_times_23 : Nat → Int32) (v_cuts_24 : Nat → Int32), ∀ (e_34 : (Nat → Int32)), Gx p l e (rmD 4) s m args below meth c D A 5 Q 0 0 107 [(0, .ref h_t_), (1, .ref h_p1)] [] [(h_t_, .inr (4, [.int v_bestCost_19, .ref h_places, .ref h_costs, .ref h_times, .ref h_cuts, .int v_boundaryCount_20])), (h_places, .inl (cI, 5, .inl v_places_21)), (h_costs, .inl (cI, 155, .inl e_34)), (h_times, .inl (cI, 31, .inl v_times_23)), (h_cuts, .inl (cZ, 31, .inl v_cuts_24)), (h_p1, .inr (6, [.ref h_p1_transcript, .ref h_p1_slots, .ref h_p1_kept, .ref h_p1_settings])), (h_p1_transcript, .inr (9, [.int v_p1_transcript_segmentCount, .int v_p1_transcript_wordCount, .ref h_p1_transcript_order, .ref h_p1_transcript_durations, .ref h_p1_transcript_pauses, .ref h_p1_transcript_sizes, .ref h_p1_transcript_words, .ref h_p1_transcript_names])), (h_p1_transcript_order, .inl (cI, 32, .inl v_p1_transcript_order)), (h_p1_transcript_pauses, .inl (cI, 32, .inl v_p1_transcript_pauses)), (h_p1_slots, .inr (7, [.int v_p1_slots_slotCount, .ref h_p1_slots_wishes, .ref h_p1_slots_lengths, .ref h_p1_slots_reaches])), (h_p1_slots_wishes, .inl (cI, 5, .inl v_p1_slots_wishes)), (h_p1_slots_reaches, .inl (cI, 5, .inl v_p1_slots_reaches)), (h_p1_settings, .inl (cI, 6, .inl v_p1_settings)), (h_p2, .inr (0, [.int v_p2_chapterCount, .int v_p2_bestWorth, .ref h_p2_changes, .ref h_p2_firsts, .ref h_p2_chapterAt, .ref h_p2_worths, .ref h_p2_cutCounts, .ref h_p2_lasts, .ref h_p2_starts, .ref h_p2_ways, .ref h_p2_left, .ref h_p2_right, .int v_p2_segmentCount, .int v_p2_least, .int v_p2_most])), (h_p2_chapterAt, .inl (cI, 32, .inl v_p2_chapterAt)), (h_p2_starts, .inl (cI, 33, .inl v_p2_starts))] → ∀ (N : Nat) (l3_18 : Int32) (v_costs_22 : Nat → Int32), wh (fun k q => S_X4_update_59 v_bestCost_19 v_boundaryCount_20 v_places_21 v_times_23 v_cuts_24 v_p1_transcript_order v_p1_transcript_pauses v_p1_slots_slotCount v_p1_slots_wishes v_p1_slots_reaches v_p1_settings k q.1 q.2) N (l3_18, v_costs_22) = some e_34 → Gx p l e (rmD 4) s m args below meth c D A 5 Q 0 0 59 [(0, .ref h_t_), (1, .ref h_p1), (3, .int l3_18)] [] [(h_t_, .inr (4, [.int v_bestCost_19, .ref h_places, .ref h_costs, .ref h_times, .ref h_cuts, .int v_boundaryCount_20])), (h_places, .inl (cI, 5, .inl v_places_21)), (h_costs, .inl (cI, 155, .inl v_costs_22)), (h_times, .inl (cI, 31, .inl v_times_23)), (h_cuts, .inl (cZ, 31, .inl v_cuts_24)), (h_p1, .inr (6, [.ref h_p1_transcript, .ref h_p1_slots, .ref h_p1_kept, .ref h_p1_settings])), (h_p1_transcript, .inr (9, [.int v_p1_transcript_segmentCount, .int v_p1_transcript_wordCount, .ref h_p1_transcript_order, .ref h_p1_transcript_durations, .ref h_p1_transcript_pauses, .ref h_p1_transcript_sizes, .ref h_p1_transcript_words, .ref h_p1_transcript_names])), (h_p1_transcript_order, .inl (cI, 32, .inl v_p1_transcript_order)), (h_p1_transcript_pauses, .inl (cI, 32, .inl v_p1_transcript_pauses)), (h_p1_slots, .inr (7, [.int v_p1_slots_slotCount, .ref h_p1_slots_wishes, .ref h_p1_slots_lengths, .ref h_p1_slots_reaches])), (h_p1_slots_wishes, .inl (cI, 5, .inl v_p1_slots_wishes)), (h_p1_slots_reaches, .inl (cI, 5, .inl v_p1_slots_reaches)), (h_p1_settings, .inl (cI, 6, .inl v_p1_settings)), (h_p2, .inr (0, [.int v_p2_chapterCount, .int v_p2_bestWorth, .ref h_p2_changes, .ref h_p2_firsts, .ref h_p2_chapterAt, .ref h_p2_worths, .ref h_p2_cutCounts, .ref h_p2_lasts, .ref h_p2_starts, .ref h_p2_ways, .ref h_p2_left, .ref h_p2_right, .int v_p2_segmentCount, .int v_p2_least, .int v_p2_most])), (h_p2_chapterAt, .inl (cI, 32, .inl v_p2_chapterAt)), (h_p2_starts, .inl (cI, 33, .inl v_p2_starts))] := by
    intro v_bestCost_19 v_boundaryCount_20 v_places_21 v_times_23 v_cuts_24 e_34 hx0 N
    induction N with
    | zero => intro l3_18 v_costs_22 hw; exact absurd hw (wh_0 _ _ _)
    | succ N ih =>
      intro l3_18 v_costs_22 hw
      have hF : S_X4_update_59 v_bestCost_19 v_boundaryCount_20 v_places_21 v_times_23 v_cuts_24 v_p1_transcript_order v_p1_transcript_pauses v_p1_slots_slotCount v_p1_slots_wishes v_p1_slots_reaches v_p1_settings (wh (fun k q => S_X4_update_59 v_bestCost_19 v_boundaryCount_20 v_places_21 v_times_23 v_cuts_24 v_p1_transcript_order v_p1_transcript_pauses v_p1_slots_slotCount v_p1_slots_wishes v_p1_slots_reaches v_p1_settings k q.1 q.2) N) l3_18 v_costs_22 = some e_34 := hw
      unfold S_X4_update_59 at hF
      refine gq_iload_n hC 2 dX4_update_59 rfl rfl ?_
      refine gq_if_lt hC 107 dX4_update_60 (by decide) (fun hc_33 => ?_) (fun hc_33 => ?_)
      · have hF := (if_pos hc_33).symm.trans hF
        refine gq_sub [(0, .ref h_t_), (1, .ref h_p1)] [0, 1] rfl ?_
        cases hF
        exact hx0
      · have hF := (if_neg hc_33).symm.trans hF
        refine gq_iconst hC (0 : Int32) dX4_update_63 (by decide) ?_
        refine gq_istore hC [(4, .int (0 : Int32)), (0, .ref h_t_), (1, .ref h_p1), (3, .int l3_18)] dX4_update_64 (by decide) rfl ?_
        have lp66 : ∀ (l3_25 : Int32), ∀ (e_31 : (Nat → Int32)), Gx p l e (rmD 4) s m args below meth c D A 5 Q 0 0 101 [(0, .ref h_t_), (1, .ref h_p1), (3, .int l3_25)] [] [(h_t_, .inr (4, [.int v_bestCost_19, .ref h_places, .ref h_costs, .ref h_times, .ref h_cuts, .int v_boundaryCount_20])), (h_places, .inl (cI, 5, .inl v_places_21)), (h_costs, .inl (cI, 155, .inl e_31)), (h_times, .inl (cI, 31, .inl v_times_23)), (h_cuts, .inl (cZ, 31, .inl v_cuts_24)), (h_p1, .inr (6, [.ref h_p1_transcript, .ref h_p1_slots, .ref h_p1_kept, .ref h_p1_settings])), (h_p1_transcript, .inr (9, [.int v_p1_transcript_segmentCount, .int v_p1_transcript_wordCount, .ref h_p1_transcript_order, .ref h_p1_transcript_durations, .ref h_p1_transcript_pauses, .ref h_p1_transcript_sizes, .ref h_p1_transcript_words, .ref h_p1_transcript_names])), (h_p1_transcript_order, .inl (cI, 32, .inl v_p1_transcript_order)), (h_p1_transcript_pauses, .inl (cI, 32, .inl v_p1_transcript_pauses)), (h_p1_slots, .inr (7, [.int v_p1_slots_slotCount, .ref h_p1_slots_wishes, .ref h_p1_slots_lengths, .ref h_p1_slots_reaches])), (h_p1_slots_wishes, .inl (cI, 5, .inl v_p1_slots_wishes)), (h_p1_slots_reaches, .inl (cI, 5, .inl v_p1_slots_reaches)), (h_p1_settings, .inl (cI, 6, .inl v_p1_settings)), (h_p2, .inr (0, [.int v_p2_chapterCount, .int v_p2_bestWorth, .ref h_p2_changes, .ref h_p2_firsts, .ref h_p2_chapterAt, .ref h_p2_worths, .ref h_p2_cutCounts, .ref h_p2_lasts, .ref h_p2_starts, .ref h_p2_ways, .ref h_p2_left, .ref h_p2_right, .int v_p2_segmentCount, .int v_p2_least, .int v_p2_most])), (h_p2_chapterAt, .inl (cI, 32, .inl v_p2_chapterAt)), (h_p2_starts, .inl (cI, 33, .inl v_p2_starts))] → ∀ (N : Nat) (l4_26 : Int32) (v_costs_27 : Nat → Int32), wh (fun k q => S_X4_update_66 l3_25 v_bestCost_19 v_boundaryCount_20 v_places_21 v_times_23 v_cuts_24 v_p1_transcript_order v_p1_transcript_pauses v_p1_slots_slotCount v_p1_slots_wishes v_p1_slots_reaches v_p1_settings k q.1 q.2) N (l4_26, v_costs_27) = some e_31 → Gx p l e (rmD 4) s m args below meth c D A 5 Q 0 0 66 [(0, .ref h_t_), (1, .ref h_p1), (3, .int l3_25), (4, .int l4_26)] [] [(h_t_, .inr (4, [.int v_bestCost_19, .ref h_places, .ref h_costs, .ref h_times, .ref h_cuts, .int v_boundaryCount_20])), (h_places, .inl (cI, 5, .inl v_places_21)), (h_costs, .inl (cI, 155, .inl v_costs_27)), (h_times, .inl (cI, 31, .inl v_times_23)), (h_cuts, .inl (cZ, 31, .inl v_cuts_24)), (h_p1, .inr (6, [.ref h_p1_transcript, .ref h_p1_slots, .ref h_p1_kept, .ref h_p1_settings])), (h_p1_transcript, .inr (9, [.int v_p1_transcript_segmentCount, .int v_p1_transcript_wordCount, .ref h_p1_transcript_order, .ref h_p1_transcript_durations, .ref h_p1_transcript_pauses, .ref h_p1_transcript_sizes, .ref h_p1_transcript_words, .ref h_p1_transcript_names])), (h_p1_transcript_order, .inl (cI, 32, .inl v_p1_transcript_order)), (h_p1_transcript_pauses, .inl (cI, 32, .inl v_p1_transcript_pauses)), (h_p1_slots, .inr (7, [.int v_p1_slots_slotCount, .ref h_p1_slots_wishes, .ref h_p1_slots_lengths, .ref h_p1_slots_reaches])), (h_p1_slots_wishes, .inl (cI, 5, .inl v_p1_slots_wishes)), (h_p1_slots_reaches, .inl (cI, 5, .inl v_p1_slots_reaches)), (h_p1_settings, .inl (cI, 6, .inl v_p1_settings)), (h_p2, .inr (0, [.int v_p2_chapterCount, .int v_p2_bestWorth, .ref h_p2_changes, .ref h_p2_firsts, .ref h_p2_chapterAt, .ref h_p2_worths, .ref h_p2_cutCounts, .ref h_p2_lasts, .ref h_p2_starts, .ref h_p2_ways, .ref h_p2_left, .ref h_p2_right, .int v_p2_segmentCount, .int v_p2_least, .int v_p2_most])), (h_p2_chapterAt, .inl (cI, 32, .inl v_p2_chapterAt)), (h_p2_starts, .inl (cI, 33, .inl v_p2_starts))] := by
          intro l3_25 e_31 hx0 N
          induction N with
          | zero => intro l4_26 v_costs_27 hw; exact absurd hw (wh_0 _ _ _)
          | succ N ih =>
            intro l4_26 v_costs_27 hw
            have hF : S_X4_update_66 l3_25 v_bestCost_19 v_boundaryCount_20 v_places_21 v_times_23 v_cuts_24 v_p1_transcript_order v_p1_transcript_pauses v_p1_slots_slotCount v_p1_slots_wishes v_p1_slots_reaches v_p1_settings (wh (fun k q => S_X4_update_66 l3_25 v_bestCost_19 v_boundaryCount_20 v_places_21 v_times_23 v_cuts_24 v_p1_transcript_order v_p1_transcript_pauses v_p1_slots_slotCount v_p1_slots_wishes v_p1_slots_reaches v_p1_settings k q.1 q.2) N) l4_26 v_costs_27 = some e_31 := hw
            unfold S_X4_update_66 at hF
            refine gq_iload hC 3 dX4_update_66 rfl ?_
            refine gq_aload_n hC 0 dX4_update_68 rfl rfl ?_
            refine gq_get hC (kf := 5) 0 hin_X4 rfl rfl (by decide) hw_37 rfl dX4_update_69 ?_
            refine gq_icmp_ge hC 101 dX4_update_72 (by decide) (fun hc_30 => ?_) (fun hc_30 => ?_)
            · have hF := (if_pos hc_30).symm.trans hF
              refine gq_sub [(0, .ref h_t_), (1, .ref h_p1), (3, .int l3_25)] [0, 1, 2] rfl ?_
              cases hF
              exact hx0
            · have hF := (if_neg hc_30).symm.trans hF
              refine gq_aload_n hC 0 dX4_update_75 rfl rfl ?_
              refine gq_get hC (kf := 2) 0 hin_X4 rfl rfl (by decide) hw_15 rfl dX4_update_76 ?_
              refine gq_iload_n hC 2 dX4_update_79 rfl rfl ?_
              refine gq_bipush hC (31 : Int32) dX4_update_80 (by decide) ?_
              refine gq_imul hC dX4_update_82 ?_
              refine gq_iload hC 3 dX4_update_83 rfl ?_
              refine gq_iadd hC dX4_update_85 ?_
              refine gq_aload_n hC 0 dX4_update_86 rfl rfl ?_
              refine gq_aload_n hC 1 dX4_update_87 rfl rfl ?_
              refine gq_iload_n hC 2 dX4_update_88 rfl rfl ?_
              refine gq_iload hC 3 dX4_update_89 rfl ?_
              obtain ⟨r_28, hc_, hF⟩ := ob1_e hF
              refine gq_callVi hC [0, 2, 3, 4, 5, 6, 7, 8, 9, 10, 11, 12] [(h_t_, .inr (4, [.int v_bestCost_19, .ref h_places, .ref h_costs, .ref h_times, .ref h_cuts, .int v_boundaryCount_20])), (h_places, .inl (cI, 5, .inl v_places_21)), (h_costs, .inl (cI, 155, .inl v_costs_27)), (h_times, .inl (cI, 31, .inl v_times_23)), (h_cuts, .inl (cZ, 31, .inl v_cuts_24)), (h_p1, .inr (6, [.ref h_p1_transcript, .ref h_p1_slots, .ref h_p1_kept, .ref h_p1_settings])), (h_p1_transcript, .inr (9, [.int v_p1_transcript_segmentCount, .int v_p1_transcript_wordCount, .ref h_p1_transcript_order, .ref h_p1_transcript_durations, .ref h_p1_transcript_pauses, .ref h_p1_transcript_sizes, .ref h_p1_transcript_words, .ref h_p1_transcript_names])), (h_p1_transcript_order, .inl (cI, 32, .inl v_p1_transcript_order)), (h_p1_transcript_pauses, .inl (cI, 32, .inl v_p1_transcript_pauses)), (h_p1_slots, .inr (7, [.int v_p1_slots_slotCount, .ref h_p1_slots_wishes, .ref h_p1_slots_lengths, .ref h_p1_slots_reaches])), (h_p1_slots_wishes, .inl (cI, 5, .inl v_p1_slots_wishes)), (h_p1_slots_reaches, .inl (cI, 5, .inl v_p1_slots_reaches)), (h_p1_settings, .inl (cI, 6, .inl v_p1_settings)), (h_p2, .inr (0, [.int v_p2_chapterCount, .int v_p2_bestWorth, .ref h_p2_changes, .ref h_p2_firsts, .ref h_p2_chapterAt, .ref h_p2_worths, .ref h_p2_cutCounts, .ref h_p2_lasts, .ref h_p2_starts, .ref h_p2_ways, .ref h_p2_left, .ref h_p2_right, .int v_p2_segmentCount, .int v_p2_least, .int v_p2_most])), (h_p2_chapterAt, .inl (cI, 32, .inl v_p2_chapterAt)), (h_p2_starts, .inl (cI, 33, .inl v_p2_starts))] [.ref h_p1, .int l3_25, .int l4_26] [.int ((l3_25 * (31 : Int32)) + l4_26), .ref h_costs] (k_X4_leastCost l D cI cJ cZ cO z h_t_ h_costs h_times h_cuts h_p1 h_p1_transcript h_p1_transcript_order h_p1_transcript_pauses h_p1_slots h_p1_slots_wishes h_p1_slots_reaches h_p1_settings h_places h_p1_kept h_p1_transcript_durations h_p1_transcript_sizes h_p1_transcript_words h_p1_transcript_names h_p1_slots_lengths l3_25 l4_26 v_bestCost_19 v_boundaryCount_20 v_costs_27 v_times_23 v_cuts_24 v_p1_transcript_segmentCount v_p1_transcript_wordCount v_p1_transcript_order v_p1_transcript_pauses v_p1_slots_slotCount v_p1_slots_wishes v_p1_slots_reaches v_p1_settings r_28 hc_) gX4_update_X4_leastCost rfl ⟨rfl, rfl⟩ hy_X4_leastCost ⟨Nat.le_of_ble_eq_true rfl, Nat.le_of_ble_eq_true rfl⟩ rfl rfl rfl (q0 := 0) rfl rfl rfl (Nat.le_of_ble_eq_true rfl) rfl dX4_update_91 rfl rfl ?_
              obtain ⟨hi_29, hF⟩ := gi_e hF
              refine gq_iast hC 2 0 [(h_t_, .inr (4, [.int v_bestCost_19, .ref h_places, .ref h_costs, .ref h_times, .ref h_cuts, .int v_boundaryCount_20])), (h_places, .inl (cI, 5, .inl v_places_21)), (h_costs, .inl (cI, 155, .inl (upd v_costs_27 ((l3_25 * (31 : Int32)) + l4_26).toNatClampNeg r_28))), (h_times, .inl (cI, 31, .inl v_times_23)), (h_cuts, .inl (cZ, 31, .inl v_cuts_24)), (h_p1, .inr (6, [.ref h_p1_transcript, .ref h_p1_slots, .ref h_p1_kept, .ref h_p1_settings])), (h_p1_transcript, .inr (9, [.int v_p1_transcript_segmentCount, .int v_p1_transcript_wordCount, .ref h_p1_transcript_order, .ref h_p1_transcript_durations, .ref h_p1_transcript_pauses, .ref h_p1_transcript_sizes, .ref h_p1_transcript_words, .ref h_p1_transcript_names])), (h_p1_transcript_order, .inl (cI, 32, .inl v_p1_transcript_order)), (h_p1_transcript_pauses, .inl (cI, 32, .inl v_p1_transcript_pauses)), (h_p1_slots, .inr (7, [.int v_p1_slots_slotCount, .ref h_p1_slots_wishes, .ref h_p1_slots_lengths, .ref h_p1_slots_reaches])), (h_p1_slots_wishes, .inl (cI, 5, .inl v_p1_slots_wishes)), (h_p1_slots_reaches, .inl (cI, 5, .inl v_p1_slots_reaches)), (h_p1_settings, .inl (cI, 6, .inl v_p1_settings)), (h_p2, .inr (0, [.int v_p2_chapterCount, .int v_p2_bestWorth, .ref h_p2_changes, .ref h_p2_firsts, .ref h_p2_chapterAt, .ref h_p2_worths, .ref h_p2_cutCounts, .ref h_p2_lasts, .ref h_p2_starts, .ref h_p2_ways, .ref h_p2_left, .ref h_p2_right, .int v_p2_segmentCount, .int v_p2_least, .int v_p2_most])), (h_p2_chapterAt, .inl (cI, 32, .inl v_p2_chapterAt)), (h_p2_starts, .inl (cI, 33, .inl v_p2_starts))] rfl rfl hi_29 dX4_update_94 rfl ?_
              refine gq_iinc hC 3 (l4_26 + (1 : Int32)) [(4, .int (l4_26 + (1 : Int32))), (0, .ref h_t_), (1, .ref h_p1), (3, .int l3_25)] dX4_update_95 rfl rfl (by decide) rfl ?_
              refine gq_goto hC 66 dX4_update_98 (by decide) ?_
              refine gq_sub [(0, .ref h_t_), (1, .ref h_p1), (3, .int l3_25), (4, .int (l4_26 + (1 : Int32)))] [1, 2, 3, 0] rfl ?_
              exact ih (l4_26 + (1 : Int32)) (upd v_costs_27 ((l3_25 * (31 : Int32)) + l4_26).toNatClampNeg r_28) hF
        refine gq_sub [(0, .ref h_t_), (1, .ref h_p1), (3, .int l3_18), (4, .int (0 : Int32))] [1, 2, 3, 0] rfl ?_
        obtain ⟨e_32, hw_, hF⟩ := ob1_e hF
        refine lp66 l3_18 e_32 ?_ wF (0 : Int32) v_costs_22 hw_
        refine gq_iinc hC 2 (l3_18 + (-1 : Int32)) [(3, .int (l3_18 + (-1 : Int32))), (0, .ref h_t_), (1, .ref h_p1)] dX4_update_101 rfl rfl (by decide) rfl ?_
        refine gq_goto hC 59 dX4_update_104 (by decide) ?_
        refine gq_sub [(0, .ref h_t_), (1, .ref h_p1), (3, .int (l3_18 + (-1 : Int32)))] [1, 2, 0] rfl ?_
        exact ih (l3_18 + (-1 : Int32)) e_32 hF
  refine gq_sub [(0, .ref h_t_), (1, .ref h_p1), (3, .int (v_p1_slots_slotCount - (1 : Int32)))] [1, 2, 0] rfl ?_
  obtain ⟨e_35, hw_, hF⟩ := ob1_e hF
  refine lp59 v_bestCost r_1 v_places e_16 e_17 e_35 ?_ wF (v_p1_slots_slotCount - (1 : Int32)) v_costs hw_
  refine gq_aload_n hC 0 dX4_update_107 rfl rfl ?_
  refine gq_aload_n hC 1 dX4_update_108 rfl rfl ?_
  obtain ⟨v_bestCost_36, v_places_37, hc_, hF⟩ := ob2_e hF
  refine gq_callVv hC [0, 1, 2, 3, 5, 9, 12] [(h_t_, .inr (4, [.int v_bestCost_36, .ref h_places, .ref h_costs, .ref h_times, .ref h_cuts, .int r_1])), (h_places, .inl (cI, 5, .inl v_places_37)), (h_costs, .inl (cI, 155, .inl e_35)), (h_times, .inl (cI, 31, .inl e_16)), (h_cuts, .inl (cZ, 31, .inl e_17)), (h_p1, .inr (6, [.ref h_p1_transcript, .ref h_p1_slots, .ref h_p1_kept, .ref h_p1_settings])), (h_p1_transcript, .inr (9, [.int v_p1_transcript_segmentCount, .int v_p1_transcript_wordCount, .ref h_p1_transcript_order, .ref h_p1_transcript_durations, .ref h_p1_transcript_pauses, .ref h_p1_transcript_sizes, .ref h_p1_transcript_words, .ref h_p1_transcript_names])), (h_p1_transcript_order, .inl (cI, 32, .inl v_p1_transcript_order)), (h_p1_transcript_pauses, .inl (cI, 32, .inl v_p1_transcript_pauses)), (h_p1_slots, .inr (7, [.int v_p1_slots_slotCount, .ref h_p1_slots_wishes, .ref h_p1_slots_lengths, .ref h_p1_slots_reaches])), (h_p1_slots_wishes, .inl (cI, 5, .inl v_p1_slots_wishes)), (h_p1_slots_reaches, .inl (cI, 5, .inl v_p1_slots_reaches)), (h_p1_settings, .inl (cI, 6, .inl v_p1_settings)), (h_p2, .inr (0, [.int v_p2_chapterCount, .int v_p2_bestWorth, .ref h_p2_changes, .ref h_p2_firsts, .ref h_p2_chapterAt, .ref h_p2_worths, .ref h_p2_cutCounts, .ref h_p2_lasts, .ref h_p2_starts, .ref h_p2_ways, .ref h_p2_left, .ref h_p2_right, .int v_p2_segmentCount, .int v_p2_least, .int v_p2_most])), (h_p2_chapterAt, .inl (cI, 32, .inl v_p2_chapterAt)), (h_p2_starts, .inl (cI, 33, .inl v_p2_starts))] [.ref h_p1] [] (k_X4_takeBest l D cI cJ cZ cO z h_t_ h_places h_costs h_times h_p1 h_p1_slots h_p1_settings h_cuts h_p1_transcript h_p1_kept h_p1_slots_wishes h_p1_slots_lengths h_p1_slots_reaches v_bestCost r_1 v_places e_35 e_16 v_p1_slots_slotCount v_p1_settings v_bestCost_36 v_places_37 hc_) gX4_update_X4_takeBest rfl ⟨rfl, rfl⟩ hy_X4_takeBest ⟨Nat.le_of_ble_eq_true rfl, Nat.le_of_ble_eq_true rfl⟩ rfl rfl rfl (q0 := 0) rfl rfl rfl (Nat.le_of_ble_eq_true rfl) rfl dX4_update_109 rfl rfl ?_
  cases hF
  rw [hQ]
  exact gq_vret hC dX4_update_112
theorem hy_X4_countChoices : yX4_countChoices.cls = RX4 ∧ yX4_countChoices.cls ≠ "java/lang/invoke/MethodHandle" ∧ yX4_countChoices.cls ≠ "java/lang/invoke/VarHandle" ∧ (parseMethodDescriptor yX4_countChoices.desc).map (fun d => d.parameters.length) = some 2 := by decide +kernel
set_option maxRecDepth 20000 in
set_option maxHeartbeats 4000000 in
theorem k_X4_countChoices (l : Launch) (D : va_G) (cI cJ cZ cO : ClassId) (z : Nat → Nat)   (h_t_ : Nat) (h_times : Nat) (h_p1 : Nat) (h_p1_transcript : Nat) (h_p1_transcript_order : Nat) (h_p1_transcript_pauses : Nat) (h_p1_slots : Nat) (h_p1_slots_wishes : Nat) (h_p1_slots_reaches : Nat) (h_p1_settings : Nat) (h_places : Nat) (h_costs : Nat) (h_cuts : Nat) (h_p1_kept : Nat) (h_p1_transcript_durations : Nat) (h_p1_transcript_sizes : Nat) (h_p1_transcript_words : Nat) (h_p1_transcript_names : Nat) (h_p1_slots_lengths : Nat) (x2 : Int32) (v_bestCost : Int32) (v_boundaryCount : Int32) (v_times : Nat → Int32) (v_p1_transcript_segmentCount : Int32) (v_p1_transcript_wordCount : Int32) (v_p1_transcript_order : Nat → Int32) (v_p1_transcript_pauses : Nat → Int32) (v_p1_slots_slotCount : Int32) (v_p1_slots_wishes : Nat → Int32) (v_p1_slots_reaches : Nat → Int32) (v_p1_settings : Nat → Int32) (r_ : Int32) (hF : F_X4_countChoices x2 v_boundaryCount v_times v_p1_transcript_order v_p1_transcript_pauses v_p1_slots_wishes v_p1_slots_reaches v_p1_settings = some r_) : Mi l yX4_countChoices wsX4_countChoices (rmD 3) D (gq_ty cI cJ cZ cO) z [.ref h_t_, .ref h_p1, .int x2] [(h_t_, .inr (4, [.int v_bestCost, .ref h_places, .ref h_costs, .ref h_times, .ref h_cuts, .int v_boundaryCount])), (h_times, .inl (cI, 31, .inl v_times)), (h_p1, .inr (6, [.ref h_p1_transcript, .ref h_p1_slots, .ref h_p1_kept, .ref h_p1_settings])), (h_p1_transcript, .inr (9, [.int v_p1_transcript_segmentCount, .int v_p1_transcript_wordCount, .ref h_p1_transcript_order, .ref h_p1_transcript_durations, .ref h_p1_transcript_pauses, .ref h_p1_transcript_sizes, .ref h_p1_transcript_words, .ref h_p1_transcript_names])), (h_p1_transcript_order, .inl (cI, 32, .inl v_p1_transcript_order)), (h_p1_transcript_pauses, .inl (cI, 32, .inl v_p1_transcript_pauses)), (h_p1_slots, .inr (7, [.int v_p1_slots_slotCount, .ref h_p1_slots_wishes, .ref h_p1_slots_lengths, .ref h_p1_slots_reaches])), (h_p1_slots_wishes, .inl (cI, 5, .inl v_p1_slots_wishes)), (h_p1_slots_reaches, .inl (cI, 5, .inl v_p1_slots_reaches)), (h_p1_settings, .inl (cI, 6, .inl v_p1_settings))] r_ [(h_t_, .inr (4, [.int v_bestCost, .ref h_places, .ref h_costs, .ref h_times, .ref h_cuts, .int v_boundaryCount])), (h_times, .inl (cI, 31, .inl v_times)), (h_p1, .inr (6, [.ref h_p1_transcript, .ref h_p1_slots, .ref h_p1_kept, .ref h_p1_settings])), (h_p1_transcript, .inr (9, [.int v_p1_transcript_segmentCount, .int v_p1_transcript_wordCount, .ref h_p1_transcript_order, .ref h_p1_transcript_durations, .ref h_p1_transcript_pauses, .ref h_p1_transcript_sizes, .ref h_p1_transcript_words, .ref h_p1_transcript_names])), (h_p1_transcript_order, .inl (cI, 32, .inl v_p1_transcript_order)), (h_p1_transcript_pauses, .inl (cI, 32, .inl v_p1_transcript_pauses)), (h_p1_slots, .inr (7, [.int v_p1_slots_slotCount, .ref h_p1_slots_wishes, .ref h_p1_slots_lengths, .ref h_p1_slots_reaches])), (h_p1_slots_wishes, .inl (cI, 5, .inl v_p1_slots_wishes)), (h_p1_slots_reaches, .inl (cI, 5, .inl v_p1_slots_reaches)), (h_p1_settings, .inl (cI, 6, .inl v_p1_settings))] 0 0 := by
  refine Mi.of (cc := cX4_countChoices) (maxL := 5) (by decide) rfl (Nat.le_of_ble_eq_true rfl) ⟨Nat.le_refl 0, Nat.le_refl 0⟩ ?_
  intro p e s m args below meth c A hC ha
  have hin_X4 : ∀ w ∈ wsX40, w ∈ wsX4_countChoices := by decide +kernel
  have hw_37 : Cond.fieldLink RX4 37 (TX4 5).1 (TX4 5).2.1 (TX4 5).2.2.1 ∈ wsX4_countChoices := by decide +kernel
  obtain ⟨Q, hQ⟩ : ∃ Q, Q = gq_Qi below D A args s r_ [(h_t_, .inr (4, [.int v_bestCost, .ref h_places, .ref h_costs, .ref h_times, .ref h_cuts, .int v_boundaryCount])), (h_times, .inl (cI, 31, .inl v_times)), (h_p1, .inr (6, [.ref h_p1_transcript, .ref h_p1_slots, .ref h_p1_kept, .ref h_p1_settings])), (h_p1_transcript, .inr (9, [.int v_p1_transcript_segmentCount, .int v_p1_transcript_wordCount, .ref h_p1_transcript_order, .ref h_p1_transcript_durations, .ref h_p1_transcript_pauses, .ref h_p1_transcript_sizes, .ref h_p1_transcript_words, .ref h_p1_transcript_names])), (h_p1_transcript_order, .inl (cI, 32, .inl v_p1_transcript_order)), (h_p1_transcript_pauses, .inl (cI, 32, .inl v_p1_transcript_pauses)), (h_p1_slots, .inr (7, [.int v_p1_slots_slotCount, .ref h_p1_slots_wishes, .ref h_p1_slots_lengths, .ref h_p1_slots_reaches])), (h_p1_slots_wishes, .inl (cI, 5, .inl v_p1_slots_wishes)), (h_p1_slots_reaches, .inl (cI, 5, .inl v_p1_slots_reaches)), (h_p1_settings, .inl (cI, 6, .inl v_p1_settings))] 0 0 := ⟨_, rfl⟩
  rw [← hQ]
  refine gq_loc [(0, .ref h_t_), (1, .ref h_p1), (2, .int x2)] rfl ?_
  unfold F_X4_countChoices at hF
  refine gq_iconst hC (0 : Int32) dX4_countChoices_0 (by decide) ?_
  refine gq_istore_n hC [(3, .int (0 : Int32)), (0, .ref h_t_), (1, .ref h_p1), (2, .int x2)] dX4_countChoices_1 rfl (by decide) rfl ?_
  refine gq_iconst hC (0 : Int32) dX4_countChoices_2 (by decide) ?_
  refine gq_istore hC [(4, .int (0 : Int32)), (3, .int (0 : Int32)), (0, .ref h_t_), (1, .ref h_p1), (2, .int x2)] dX4_countChoices_3 (by decide) rfl ?_
  have lp5 : ∀ (e_6 : Int32), Gx p l e (rmD 3) s m args below meth c D A 5 Q 0 0 34 [(3, .int e_6)] [] [(h_t_, .inr (4, [.int v_bestCost, .ref h_places, .ref h_costs, .ref h_times, .ref h_cuts, .int v_boundaryCount])), (h_times, .inl (cI, 31, .inl v_times)), (h_p1, .inr (6, [.ref h_p1_transcript, .ref h_p1_slots, .ref h_p1_kept, .ref h_p1_settings])), (h_p1_transcript, .inr (9, [.int v_p1_transcript_segmentCount, .int v_p1_transcript_wordCount, .ref h_p1_transcript_order, .ref h_p1_transcript_durations, .ref h_p1_transcript_pauses, .ref h_p1_transcript_sizes, .ref h_p1_transcript_words, .ref h_p1_transcript_names])), (h_p1_transcript_order, .inl (cI, 32, .inl v_p1_transcript_order)), (h_p1_transcript_pauses, .inl (cI, 32, .inl v_p1_transcript_pauses)), (h_p1_slots, .inr (7, [.int v_p1_slots_slotCount, .ref h_p1_slots_wishes, .ref h_p1_slots_lengths, .ref h_p1_slots_reaches])), (h_p1_slots_wishes, .inl (cI, 5, .inl v_p1_slots_wishes)), (h_p1_slots_reaches, .inl (cI, 5, .inl v_p1_slots_reaches)), (h_p1_settings, .inl (cI, 6, .inl v_p1_settings))] → ∀ (N : Nat) (l3_1 : Int32) (l4_2 : Int32), wh (fun k q => S_X4_countChoices_5 x2 v_boundaryCount v_times v_p1_transcript_order v_p1_transcript_pauses v_p1_slots_wishes v_p1_slots_reaches v_p1_settings k q.1 q.2) N (l3_1, l4_2) = some e_6 → Gx p l e (rmD 3) s m args below meth c D A 5 Q 0 0 5 [(0, .ref h_t_), (1, .ref h_p1), (2, .int x2), (3, .int l3_1), (4, .int l4_2)] [] [(h_t_, .inr (4, [.int v_bestCost, .ref h_places, .ref h_costs, .ref h_times, .ref h_cuts, .int v_boundaryCount])), (h_times, .inl (cI, 31, .inl v_times)), (h_p1, .inr (6, [.ref h_p1_transcript, .ref h_p1_slots, .ref h_p1_kept, .ref h_p1_settings])), (h_p1_transcript, .inr (9, [.int v_p1_transcript_segmentCount, .int v_p1_transcript_wordCount, .ref h_p1_transcript_order, .ref h_p1_transcript_durations, .ref h_p1_transcript_pauses, .ref h_p1_transcript_sizes, .ref h_p1_transcript_words, .ref h_p1_transcript_names])), (h_p1_transcript_order, .inl (cI, 32, .inl v_p1_transcript_order)), (h_p1_transcript_pauses, .inl (cI, 32, .inl v_p1_transcript_pauses)), (h_p1_slots, .inr (7, [.int v_p1_slots_slotCount, .ref h_p1_slots_wishes, .ref h_p1_slots_lengths, .ref h_p1_slots_reaches])), (h_p1_slots_wishes, .inl (cI, 5, .inl v_p1_slots_wishes)), (h_p1_slots_reaches, .inl (cI, 5, .inl v_p1_slots_reaches)), (h_p1_settings, .inl (cI, 6, .inl v_p1_settings))] := by
    intro e_6 hx0 N
    induction N with
    | zero => intro l3_1 l4_2 hw; exact absurd hw (wh_0 _ _ _)
    | succ N ih =>
      intro l3_1 l4_2 hw
      have hF : S_X4_countChoices_5 x2 v_boundaryCount v_times v_p1_transcript_order v_p1_transcript_pauses v_p1_slots_wishes v_p1_slots_reaches v_p1_settings (wh (fun k q => S_X4_countChoices_5 x2 v_boundaryCount v_times v_p1_transcript_order v_p1_transcript_pauses v_p1_slots_wishes v_p1_slots_reaches v_p1_settings k q.1 q.2) N) l3_1 l4_2 = some e_6 := hw
      unfold S_X4_countChoices_5 at hF
      refine gq_iload hC 4 dX4_countChoices_5 rfl ?_
      refine gq_aload_n hC 0 dX4_countChoices_7 rfl rfl ?_
      refine gq_get hC (kf := 5) 0 hin_X4 rfl rfl (by decide) hw_37 rfl dX4_countChoices_8 ?_
      refine gq_icmp_ge hC 34 dX4_countChoices_11 (by decide) (fun hc_5 => ?_) (fun hc_5 => ?_)
      · have hF := (if_pos hc_5).symm.trans hF
        refine gq_sub [(3, .int l3_1)] [3] rfl ?_
        cases hF
        exact hx0
      · have hF := (if_neg hc_5).symm.trans hF
        refine gq_aload_n hC 0 dX4_countChoices_14 rfl rfl ?_
        refine gq_aload_n hC 1 dX4_countChoices_15 rfl rfl ?_
        refine gq_iload_n hC 2 dX4_countChoices_16 rfl rfl ?_
        refine gq_iload hC 4 dX4_countChoices_17 rfl ?_
        obtain ⟨r_3, hc_, hF⟩ := ob1_e hF
        refine gq_callVi hC [0, 1, 2, 3, 4, 5, 6, 7, 8, 9] [(h_t_, .inr (4, [.int v_bestCost, .ref h_places, .ref h_costs, .ref h_times, .ref h_cuts, .int v_boundaryCount])), (h_times, .inl (cI, 31, .inl v_times)), (h_p1, .inr (6, [.ref h_p1_transcript, .ref h_p1_slots, .ref h_p1_kept, .ref h_p1_settings])), (h_p1_transcript, .inr (9, [.int v_p1_transcript_segmentCount, .int v_p1_transcript_wordCount, .ref h_p1_transcript_order, .ref h_p1_transcript_durations, .ref h_p1_transcript_pauses, .ref h_p1_transcript_sizes, .ref h_p1_transcript_words, .ref h_p1_transcript_names])), (h_p1_transcript_order, .inl (cI, 32, .inl v_p1_transcript_order)), (h_p1_transcript_pauses, .inl (cI, 32, .inl v_p1_transcript_pauses)), (h_p1_slots, .inr (7, [.int v_p1_slots_slotCount, .ref h_p1_slots_wishes, .ref h_p1_slots_lengths, .ref h_p1_slots_reaches])), (h_p1_slots_wishes, .inl (cI, 5, .inl v_p1_slots_wishes)), (h_p1_slots_reaches, .inl (cI, 5, .inl v_p1_slots_reaches)), (h_p1_settings, .inl (cI, 6, .inl v_p1_settings))] [.ref h_p1, .int x2, .int l4_2] [] (k_X4_isChoice l D cI cJ cZ cO z h_t_ h_times h_p1 h_p1_transcript h_p1_transcript_order h_p1_transcript_pauses h_p1_slots h_p1_slots_wishes h_p1_slots_reaches h_p1_settings h_places h_costs h_cuts h_p1_kept h_p1_transcript_durations h_p1_transcript_sizes h_p1_transcript_words h_p1_transcript_names h_p1_slots_lengths x2 l4_2 v_bestCost v_boundaryCount v_times v_p1_transcript_segmentCount v_p1_transcript_wordCount v_p1_transcript_order v_p1_transcript_pauses v_p1_slots_slotCount v_p1_slots_wishes v_p1_slots_reaches v_p1_settings r_3 hc_) gX4_countChoices_X4_isChoice rfl ⟨rfl, rfl⟩ hy_X4_isChoice ⟨Nat.le_of_ble_eq_true rfl, Nat.le_of_ble_eq_true rfl⟩ rfl rfl rfl (q0 := 0) rfl rfl rfl (Nat.le_of_ble_eq_true rfl) rfl dX4_countChoices_19 rfl rfl ?_
        refine gq_if_eq hC 28 dX4_countChoices_22 (by decide) (fun hc_4 => ?_) (fun hc_4 => ?_)
        · have hF := (if_pos hc_4).symm.trans hF
          refine gq_iinc hC 4 (l4_2 + (1 : Int32)) [(4, .int (l4_2 + (1 : Int32))), (0, .ref h_t_), (1, .ref h_p1), (2, .int x2), (3, .int l3_1)] dX4_countChoices_28 rfl rfl (by decide) rfl ?_
          refine gq_goto hC 5 dX4_countChoices_31 (by decide) ?_
          refine gq_sub [(0, .ref h_t_), (1, .ref h_p1), (2, .int x2), (3, .int l3_1), (4, .int (l4_2 + (1 : Int32)))] [1, 2, 3, 4, 0] rfl ?_
          exact ih l3_1 (l4_2 + (1 : Int32)) hF
        · have hF := (if_neg hc_4).symm.trans hF
          refine gq_iinc hC 3 (l3_1 + (1 : Int32)) [(3, .int (l3_1 + (1 : Int32))), (0, .ref h_t_), (1, .ref h_p1), (2, .int x2), (4, .int l4_2)] dX4_countChoices_25 rfl rfl (by decide) rfl ?_
          refine gq_iinc hC 4 (l4_2 + (1 : Int32)) [(4, .int (l4_2 + (1 : Int32))), (3, .int (l3_1 + (1 : Int32))), (0, .ref h_t_), (1, .ref h_p1), (2, .int x2)] dX4_countChoices_28 rfl rfl (by decide) rfl ?_
          refine gq_goto hC 5 dX4_countChoices_31 (by decide) ?_
          refine gq_sub [(0, .ref h_t_), (1, .ref h_p1), (2, .int x2), (3, .int (l3_1 + (1 : Int32))), (4, .int (l4_2 + (1 : Int32)))] [2, 3, 4, 1, 0] rfl ?_
          exact ih (l3_1 + (1 : Int32)) (l4_2 + (1 : Int32)) hF
  refine gq_sub [(0, .ref h_t_), (1, .ref h_p1), (2, .int x2), (3, .int (0 : Int32)), (4, .int (0 : Int32))] [2, 3, 4, 1, 0] rfl ?_
  obtain ⟨e_7, hw_, hF⟩ := ob1_e hF
  refine lp5  e_7 ?_ wF (0 : Int32) (0 : Int32) hw_
  refine gq_iload_n hC 0 dX4_countChoices_34 rfl rfl ?_
  cases hF
  rw [hQ]
  exact gq_iret hC rfl dX4_countChoices_35
theorem hy_X4_realTime : yX4_realTime.cls = RX4 ∧ yX4_realTime.cls ≠ "java/lang/invoke/MethodHandle" ∧ yX4_realTime.cls ≠ "java/lang/invoke/VarHandle" ∧ (parseMethodDescriptor yX4_realTime.desc).map (fun d => d.parameters.length) = some 2 := by decide +kernel
set_option maxRecDepth 20000 in
set_option maxHeartbeats 4000000 in
theorem k_X4_realTime (l : Launch) (D : va_G) (cI cJ cZ cO : ClassId) (z : Nat → Nat)   (h_t_ : Nat) (h_places : Nat) (h_p1 : Nat) (h_p1_transcript : Nat) (h_p1_transcript_order : Nat) (h_p1_transcript_durations : Nat) (h_p1_slots : Nat) (h_p1_slots_lengths : Nat) (h_costs : Nat) (h_times : Nat) (h_cuts : Nat) (h_p1_kept : Nat) (h_p1_settings : Nat) (h_p1_transcript_pauses : Nat) (h_p1_transcript_sizes : Nat) (h_p1_transcript_words : Nat) (h_p1_transcript_names : Nat) (h_p1_slots_wishes : Nat) (h_p1_slots_reaches : Nat) (x2 : Int32) (v_bestCost : Int32) (v_boundaryCount : Int32) (v_places : Nat → Int32) (v_p1_transcript_segmentCount : Int32) (v_p1_transcript_wordCount : Int32) (v_p1_transcript_order : Nat → Int32) (v_p1_transcript_durations : Nat → Int32) (v_p1_slots_slotCount : Int32) (v_p1_slots_lengths : Nat → Int32) (r_ : Int32) (hF : F_X4_realTime x2 v_bestCost v_places v_p1_transcript_order v_p1_transcript_durations v_p1_slots_slotCount v_p1_slots_lengths = some r_) : Mi l yX4_realTime wsX4_realTime (rmD 2) D (gq_ty cI cJ cZ cO) z [.ref h_t_, .ref h_p1, .int x2] [(h_t_, .inr (4, [.int v_bestCost, .ref h_places, .ref h_costs, .ref h_times, .ref h_cuts, .int v_boundaryCount])), (h_places, .inl (cI, 5, .inl v_places)), (h_p1, .inr (6, [.ref h_p1_transcript, .ref h_p1_slots, .ref h_p1_kept, .ref h_p1_settings])), (h_p1_transcript, .inr (9, [.int v_p1_transcript_segmentCount, .int v_p1_transcript_wordCount, .ref h_p1_transcript_order, .ref h_p1_transcript_durations, .ref h_p1_transcript_pauses, .ref h_p1_transcript_sizes, .ref h_p1_transcript_words, .ref h_p1_transcript_names])), (h_p1_transcript_order, .inl (cI, 32, .inl v_p1_transcript_order)), (h_p1_transcript_durations, .inl (cI, 32, .inl v_p1_transcript_durations)), (h_p1_slots, .inr (7, [.int v_p1_slots_slotCount, .ref h_p1_slots_wishes, .ref h_p1_slots_lengths, .ref h_p1_slots_reaches])), (h_p1_slots_lengths, .inl (cI, 5, .inl v_p1_slots_lengths))] r_ [(h_t_, .inr (4, [.int v_bestCost, .ref h_places, .ref h_costs, .ref h_times, .ref h_cuts, .int v_boundaryCount])), (h_places, .inl (cI, 5, .inl v_places)), (h_p1, .inr (6, [.ref h_p1_transcript, .ref h_p1_slots, .ref h_p1_kept, .ref h_p1_settings])), (h_p1_transcript, .inr (9, [.int v_p1_transcript_segmentCount, .int v_p1_transcript_wordCount, .ref h_p1_transcript_order, .ref h_p1_transcript_durations, .ref h_p1_transcript_pauses, .ref h_p1_transcript_sizes, .ref h_p1_transcript_words, .ref h_p1_transcript_names])), (h_p1_transcript_order, .inl (cI, 32, .inl v_p1_transcript_order)), (h_p1_transcript_durations, .inl (cI, 32, .inl v_p1_transcript_durations)), (h_p1_slots, .inr (7, [.int v_p1_slots_slotCount, .ref h_p1_slots_wishes, .ref h_p1_slots_lengths, .ref h_p1_slots_reaches])), (h_p1_slots_lengths, .inl (cI, 5, .inl v_p1_slots_lengths))] 0 0 := by
  refine Mi.of (cc := cX4_realTime) (maxL := 5) (by decide) rfl (Nat.le_of_ble_eq_true rfl) ⟨Nat.le_refl 0, Nat.le_refl 0⟩ ?_
  intro p e s m args below meth c A hC ha
  have hin_X4 : ∀ w ∈ wsX40, w ∈ wsX4_realTime := by decide +kernel
  have hin_X6 : ∀ w ∈ wsX60, w ∈ wsX4_realTime := by decide +kernel
  have hin_X7 : ∀ w ∈ wsX70, w ∈ wsX4_realTime := by decide +kernel
  have hw_9 : Cond.fieldLink RX4 9 (TX4 1).1 (TX4 1).2.1 (TX4 1).2.2.1 ∈ wsX4_realTime := by decide +kernel
  have hw_25 : Cond.fieldLink RX4 25 (TX6 0).1 (TX6 0).2.1 (TX6 0).2.2.1 ∈ wsX4_realTime := by decide +kernel
  have hw_50 : Cond.fieldLink RX4 50 (TX6 1).1 (TX6 1).2.1 (TX6 1).2.2.1 ∈ wsX4_realTime := by decide +kernel
  have hw_54 : Cond.fieldLink RX4 54 (TX7 0).1 (TX7 0).2.1 (TX7 0).2.2.1 ∈ wsX4_realTime := by decide +kernel
  have hw_82 : Cond.fieldLink RX4 82 (TX4 0).1 (TX4 0).2.1 (TX4 0).2.2.1 ∈ wsX4_realTime := by decide +kernel
  have hw_102 : Cond.fieldLink RX4 102 (TX7 2).1 (TX7 2).2.1 (TX7 2).2.2.1 ∈ wsX4_realTime := by decide +kernel
  obtain ⟨Q, hQ⟩ : ∃ Q, Q = gq_Qi below D A args s r_ [(h_t_, .inr (4, [.int v_bestCost, .ref h_places, .ref h_costs, .ref h_times, .ref h_cuts, .int v_boundaryCount])), (h_places, .inl (cI, 5, .inl v_places)), (h_p1, .inr (6, [.ref h_p1_transcript, .ref h_p1_slots, .ref h_p1_kept, .ref h_p1_settings])), (h_p1_transcript, .inr (9, [.int v_p1_transcript_segmentCount, .int v_p1_transcript_wordCount, .ref h_p1_transcript_order, .ref h_p1_transcript_durations, .ref h_p1_transcript_pauses, .ref h_p1_transcript_sizes, .ref h_p1_transcript_words, .ref h_p1_transcript_names])), (h_p1_transcript_order, .inl (cI, 32, .inl v_p1_transcript_order)), (h_p1_transcript_durations, .inl (cI, 32, .inl v_p1_transcript_durations)), (h_p1_slots, .inr (7, [.int v_p1_slots_slotCount, .ref h_p1_slots_wishes, .ref h_p1_slots_lengths, .ref h_p1_slots_reaches])), (h_p1_slots_lengths, .inl (cI, 5, .inl v_p1_slots_lengths))] 0 0 := ⟨_, rfl⟩
  rw [← hQ]
  refine gq_loc [(0, .ref h_t_), (1, .ref h_p1), (2, .int x2)] rfl ?_
  unfold F_X4_realTime at hF
  refine gq_aload_n hC 1 dX4_realTime_0 rfl rfl ?_
  refine gq_get hC (kf := 0) 2 hin_X6 rfl rfl (by decide) hw_25 rfl dX4_realTime_1 ?_
  refine gq_iload_n hC 2 dX4_realTime_4 rfl rfl ?_
  obtain ⟨r_1, hc_, hF⟩ := ob1_e hF
  refine gq_callVi hC [3, 4, 5] [(h_t_, .inr (4, [.int v_bestCost, .ref h_places, .ref h_costs, .ref h_times, .ref h_cuts, .int v_boundaryCount])), (h_places, .inl (cI, 5, .inl v_places)), (h_p1, .inr (6, [.ref h_p1_transcript, .ref h_p1_slots, .ref h_p1_kept, .ref h_p1_settings])), (h_p1_transcript, .inr (9, [.int v_p1_transcript_segmentCount, .int v_p1_transcript_wordCount, .ref h_p1_transcript_order, .ref h_p1_transcript_durations, .ref h_p1_transcript_pauses, .ref h_p1_transcript_sizes, .ref h_p1_transcript_words, .ref h_p1_transcript_names])), (h_p1_transcript_order, .inl (cI, 32, .inl v_p1_transcript_order)), (h_p1_transcript_durations, .inl (cI, 32, .inl v_p1_transcript_durations)), (h_p1_slots, .inr (7, [.int v_p1_slots_slotCount, .ref h_p1_slots_wishes, .ref h_p1_slots_lengths, .ref h_p1_slots_reaches])), (h_p1_slots_lengths, .inl (cI, 5, .inl v_p1_slots_lengths))] [.int x2] [] (k_X9_startOf l D cI cJ cZ cO z h_p1_transcript h_p1_transcript_order h_p1_transcript_durations h_p1_transcript_pauses h_p1_transcript_sizes h_p1_transcript_words h_p1_transcript_names x2 v_p1_transcript_segmentCount v_p1_transcript_wordCount v_p1_transcript_order v_p1_transcript_durations r_1 hc_) gX4_realTime_X9_startOf rfl ⟨rfl, rfl⟩ hy_X9_startOf ⟨Nat.le_of_ble_eq_true rfl, Nat.le_of_ble_eq_true rfl⟩ rfl rfl rfl (q0 := 0) rfl rfl rfl (Nat.le_of_ble_eq_true rfl) rfl dX4_realTime_5 rfl rfl ?_
  refine gq_istore_n hC [(3, .int r_1), (0, .ref h_t_), (1, .ref h_p1), (2, .int x2)] dX4_realTime_8 rfl (by decide) rfl ?_
  refine gq_aload_n hC 1 dX4_realTime_9 rfl rfl ?_
  refine gq_get hC (kf := 0) 0 hin_X4 rfl rfl (by decide) hw_82 rfl dX4_realTime_10 ?_
  refine gq_iconst hC (-1 : Int32) dX4_realTime_13 (by decide) ?_
  refine gq_icmp_ne hC 19 dX4_realTime_14 (by decide) (fun hc_10 => ?_) (fun hc_10 => ?_)
  · have hF := (if_neg hc_10).symm.trans hF
    refine gq_iconst hC (0 : Int32) dX4_realTime_19 (by decide) ?_
    refine gq_istore hC [(4, .int (0 : Int32)), (3, .int r_1), (0, .ref h_t_), (1, .ref h_p1), (2, .int x2)] dX4_realTime_20 (by decide) rfl ?_
    have lp22 : ∀ (e_8 : Int32), Gx p l e (rmD 2) s m args below meth c D A 5 Q 0 0 64 [(3, .int e_8)] [] [(h_t_, .inr (4, [.int v_bestCost, .ref h_places, .ref h_costs, .ref h_times, .ref h_cuts, .int v_boundaryCount])), (h_places, .inl (cI, 5, .inl v_places)), (h_p1, .inr (6, [.ref h_p1_transcript, .ref h_p1_slots, .ref h_p1_kept, .ref h_p1_settings])), (h_p1_transcript, .inr (9, [.int v_p1_transcript_segmentCount, .int v_p1_transcript_wordCount, .ref h_p1_transcript_order, .ref h_p1_transcript_durations, .ref h_p1_transcript_pauses, .ref h_p1_transcript_sizes, .ref h_p1_transcript_words, .ref h_p1_transcript_names])), (h_p1_transcript_order, .inl (cI, 32, .inl v_p1_transcript_order)), (h_p1_transcript_durations, .inl (cI, 32, .inl v_p1_transcript_durations)), (h_p1_slots, .inr (7, [.int v_p1_slots_slotCount, .ref h_p1_slots_wishes, .ref h_p1_slots_lengths, .ref h_p1_slots_reaches])), (h_p1_slots_lengths, .inl (cI, 5, .inl v_p1_slots_lengths))] → ∀ (N : Nat) (l3_2 : Int32) (l4_3 : Int32), wh (fun k q => S_X4_realTime_22 x2 v_places v_p1_slots_slotCount v_p1_slots_lengths k q.1 q.2) N (l3_2, l4_3) = some e_8 → Gx p l e (rmD 2) s m args below meth c D A 5 Q 0 0 22 [(0, .ref h_t_), (1, .ref h_p1), (2, .int x2), (3, .int l3_2), (4, .int l4_3)] [] [(h_t_, .inr (4, [.int v_bestCost, .ref h_places, .ref h_costs, .ref h_times, .ref h_cuts, .int v_boundaryCount])), (h_places, .inl (cI, 5, .inl v_places)), (h_p1, .inr (6, [.ref h_p1_transcript, .ref h_p1_slots, .ref h_p1_kept, .ref h_p1_settings])), (h_p1_transcript, .inr (9, [.int v_p1_transcript_segmentCount, .int v_p1_transcript_wordCount, .ref h_p1_transcript_order, .ref h_p1_transcript_durations, .ref h_p1_transcript_pauses, .ref h_p1_transcript_sizes, .ref h_p1_transcript_words, .ref h_p1_transcript_names])), (h_p1_transcript_order, .inl (cI, 32, .inl v_p1_transcript_order)), (h_p1_transcript_durations, .inl (cI, 32, .inl v_p1_transcript_durations)), (h_p1_slots, .inr (7, [.int v_p1_slots_slotCount, .ref h_p1_slots_wishes, .ref h_p1_slots_lengths, .ref h_p1_slots_reaches])), (h_p1_slots_lengths, .inl (cI, 5, .inl v_p1_slots_lengths))] := by
      intro e_8 hx0 N
      induction N with
      | zero => intro l3_2 l4_3 hw; exact absurd hw (wh_0 _ _ _)
      | succ N ih =>
        intro l3_2 l4_3 hw
        have hF : S_X4_realTime_22 x2 v_places v_p1_slots_slotCount v_p1_slots_lengths (wh (fun k q => S_X4_realTime_22 x2 v_places v_p1_slots_slotCount v_p1_slots_lengths k q.1 q.2) N) l3_2 l4_3 = some e_8 := hw
        unfold S_X4_realTime_22 at hF
        refine gq_iload hC 4 dX4_realTime_22 rfl ?_
        refine gq_aload_n hC 1 dX4_realTime_24 rfl rfl ?_
        refine gq_get hC (kf := 1) 2 hin_X6 rfl rfl (by decide) hw_50 rfl dX4_realTime_25 ?_
        refine gq_get hC (kf := 0) 6 hin_X7 rfl rfl (by decide) hw_54 rfl dX4_realTime_28 ?_
        refine gq_icmp_ge hC 64 dX4_realTime_31 (by decide) (fun hc_7 => ?_) (fun hc_7 => ?_)
        · have hF := (if_pos hc_7).symm.trans hF
          refine gq_sub [(3, .int l3_2)] [3] rfl ?_
          cases hF
          exact hx0
        · have hF := (if_neg hc_7).symm.trans hF
          refine gq_aload_n hC 0 dX4_realTime_34 rfl rfl ?_
          refine gq_get hC (kf := 1) 0 hin_X4 rfl rfl (by decide) hw_9 rfl dX4_realTime_35 ?_
          refine gq_iload hC 4 dX4_realTime_38 rfl ?_
          obtain ⟨hi_4, hF⟩ := gi_e hF
          refine gq_iald hC 1 0 rfl rfl hi_4 dX4_realTime_40 ?_
          refine gq_iload_n hC 2 dX4_realTime_41 rfl rfl ?_
          refine gq_icmp_ge hC 58 dX4_realTime_42 (by decide) (fun hc_6 => ?_) (fun hc_6 => ?_)
          · have hF := (if_pos hc_6).symm.trans hF
            refine gq_iinc hC 4 (l4_3 + (1 : Int32)) [(4, .int (l4_3 + (1 : Int32))), (0, .ref h_t_), (1, .ref h_p1), (2, .int x2), (3, .int l3_2)] dX4_realTime_58 rfl rfl (by decide) rfl ?_
            refine gq_goto hC 22 dX4_realTime_61 (by decide) ?_
            refine gq_sub [(0, .ref h_t_), (1, .ref h_p1), (2, .int x2), (3, .int l3_2), (4, .int (l4_3 + (1 : Int32)))] [1, 2, 3, 4, 0] rfl ?_
            exact ih l3_2 (l4_3 + (1 : Int32)) hF
          · have hF := (if_neg hc_6).symm.trans hF
            refine gq_iload_n hC 3 dX4_realTime_45 rfl rfl ?_
            refine gq_aload_n hC 1 dX4_realTime_46 rfl rfl ?_
            refine gq_get hC (kf := 1) 2 hin_X6 rfl rfl (by decide) hw_50 rfl dX4_realTime_47 ?_
            refine gq_get hC (kf := 2) 6 hin_X7 rfl rfl (by decide) hw_102 rfl dX4_realTime_50 ?_
            refine gq_iload hC 4 dX4_realTime_53 rfl ?_
            obtain ⟨hi_5, hF⟩ := gi_e hF
            refine gq_iald hC 7 0 rfl rfl hi_5 dX4_realTime_55 ?_
            refine gq_iadd hC dX4_realTime_56 ?_
            refine gq_istore_n hC [(3, .int (l3_2 + (v_p1_slots_lengths l4_3.toNatClampNeg))), (0, .ref h_t_), (1, .ref h_p1), (2, .int x2), (4, .int l4_3)] dX4_realTime_57 rfl (by decide) rfl ?_
            refine gq_iinc hC 4 (l4_3 + (1 : Int32)) [(4, .int (l4_3 + (1 : Int32))), (3, .int (l3_2 + (v_p1_slots_lengths l4_3.toNatClampNeg))), (0, .ref h_t_), (1, .ref h_p1), (2, .int x2)] dX4_realTime_58 rfl rfl (by decide) rfl ?_
            refine gq_goto hC 22 dX4_realTime_61 (by decide) ?_
            refine gq_sub [(0, .ref h_t_), (1, .ref h_p1), (2, .int x2), (3, .int (l3_2 + (v_p1_slots_lengths l4_3.toNatClampNeg))), (4, .int (l4_3 + (1 : Int32)))] [2, 3, 4, 1, 0] rfl ?_
            exact ih (l3_2 + (v_p1_slots_lengths l4_3.toNatClampNeg)) (l4_3 + (1 : Int32)) hF
    refine gq_sub [(0, .ref h_t_), (1, .ref h_p1), (2, .int x2), (3, .int r_1), (4, .int (0 : Int32))] [2, 3, 4, 1, 0] rfl ?_
    obtain ⟨e_9, hw_, hF⟩ := ob1_e hF
    refine lp22  e_9 ?_ wF r_1 (0 : Int32) hw_
    refine gq_iload_n hC 0 dX4_realTime_64 rfl rfl ?_
    cases hF
    rw [hQ]
    exact gq_iret hC rfl dX4_realTime_65
  · have hF := (if_pos hc_10).symm.trans hF
    refine gq_iload_n hC 0 dX4_realTime_17 rfl rfl ?_
    cases hF
    rw [hQ]
    exact gq_iret hC rfl dX4_realTime_18
theorem hy_X8_update : yX8_update.cls = RX8 ∧ yX8_update.cls ≠ "java/lang/invoke/MethodHandle" ∧ yX8_update.cls ≠ "java/lang/invoke/VarHandle" ∧ (parseMethodDescriptor yX8_update.desc).map (fun d => d.parameters.length) = some 2 := by decide +kernel
set_option maxRecDepth 20000 in
set_option maxHeartbeats 4000000 in
theorem k_X8_update (l : Launch) (D : va_G) (cI cJ cZ cO : ClassId) (z : Nat → Nat)   (h_t_ : Nat) (h_spread : Nat) (h_counts : Nat) (h_p1 : Nat) (h_p1_order : Nat) (h_p1_sizes : Nat) (h_p1_words : Nat) (h_p2 : Nat) (h_p2_firsts : Nat) (h_p1_durations : Nat) (h_p1_pauses : Nat) (h_p1_names : Nat) (h_p2_changes : Nat) (h_p2_chapterAt : Nat) (h_p2_worths : Nat) (h_p2_cutCounts : Nat) (h_p2_lasts : Nat) (h_p2_starts : Nat) (h_p2_ways : Nat) (h_p2_left : Nat) (h_p2_right : Nat)  (v_spread : Nat → Int32) (v_counts : Nat → Int32) (v_p1_segmentCount : Int32) (v_p1_wordCount : Int32) (v_p1_order : Nat → Int32) (v_p1_sizes : Nat → Int32) (v_p1_words : Nat → Int32) (v_p2_chapterCount : Int32) (v_p2_bestWorth : Int32) (v_p2_segmentCount : Int32) (v_p2_least : Int32) (v_p2_most : Int32) (v_p2_firsts : Nat → Int32) (w_spread : Nat → Int32) (w_counts : Nat → Int32) (hF : F_X8_update v_spread v_counts v_p1_order v_p1_sizes v_p1_words v_p2_chapterCount v_p2_segmentCount v_p2_firsts = some (w_spread, w_counts)) : Mv l yX8_update wsX8_update (rmD 2) D (gq_ty cI cJ cZ cO) z [.ref h_t_, .ref h_p1, .ref h_p2] [(h_t_, .inr (8, [.ref h_spread, .ref h_counts])), (h_spread, .inl (cI, 24, .inl v_spread)), (h_counts, .inl (cI, 768, .inl v_counts)), (h_p1, .inr (9, [.int v_p1_segmentCount, .int v_p1_wordCount, .ref h_p1_order, .ref h_p1_durations, .ref h_p1_pauses, .ref h_p1_sizes, .ref h_p1_words, .ref h_p1_names])), (h_p1_order, .inl (cI, 32, .inl v_p1_order)), (h_p1_sizes, .inl (cI, 32, .inl v_p1_sizes)), (h_p1_words, .inl (cI, 256, .inl v_p1_words)), (h_p2, .inr (0, [.int v_p2_chapterCount, .int v_p2_bestWorth, .ref h_p2_changes, .ref h_p2_firsts, .ref h_p2_chapterAt, .ref h_p2_worths, .ref h_p2_cutCounts, .ref h_p2_lasts, .ref h_p2_starts, .ref h_p2_ways, .ref h_p2_left, .ref h_p2_right, .int v_p2_segmentCount, .int v_p2_least, .int v_p2_most])), (h_p2_firsts, .inl (cI, 32, .inl v_p2_firsts))] [(h_t_, .inr (8, [.ref h_spread, .ref h_counts])), (h_spread, .inl (cI, 24, .inl w_spread)), (h_counts, .inl (cI, 768, .inl w_counts)), (h_p1, .inr (9, [.int v_p1_segmentCount, .int v_p1_wordCount, .ref h_p1_order, .ref h_p1_durations, .ref h_p1_pauses, .ref h_p1_sizes, .ref h_p1_words, .ref h_p1_names])), (h_p1_order, .inl (cI, 32, .inl v_p1_order)), (h_p1_sizes, .inl (cI, 32, .inl v_p1_sizes)), (h_p1_words, .inl (cI, 256, .inl v_p1_words)), (h_p2, .inr (0, [.int v_p2_chapterCount, .int v_p2_bestWorth, .ref h_p2_changes, .ref h_p2_firsts, .ref h_p2_chapterAt, .ref h_p2_worths, .ref h_p2_cutCounts, .ref h_p2_lasts, .ref h_p2_starts, .ref h_p2_ways, .ref h_p2_left, .ref h_p2_right, .int v_p2_segmentCount, .int v_p2_least, .int v_p2_most])), (h_p2_firsts, .inl (cI, 32, .inl v_p2_firsts))] 0 0 := by
  refine Mv.of (cc := cX8_update) (maxL := 6) (by decide) rfl (Nat.le_of_ble_eq_true rfl) ⟨Nat.le_refl 0, Nat.le_refl 0⟩ ?_
  intro p e s m args below meth c A hC ha
  have hin_X0 : ∀ w ∈ wsX00, w ∈ wsX8_update := by decide +kernel
  have hin_X8 : ∀ w ∈ wsX80, w ∈ wsX8_update := by decide +kernel
  have hw_9 : Cond.fieldLink RX8 9 (TX8 0).1 (TX8 0).2.1 (TX8 0).2.2.1 ∈ wsX8_update := by decide +kernel
  have hw_15 : Cond.fieldLink RX8 15 (TX8 1).1 (TX8 1).2.1 (TX8 1).2.2.1 ∈ wsX8_update := by decide +kernel
  have hw_24 : Cond.fieldLink RX8 24 (TX0 0).1 (TX0 0).2.1 (TX0 0).2.2.1 ∈ wsX8_update := by decide +kernel
  have hw_30 : Cond.fieldLink RX8 30 (TX0 3).1 (TX0 3).2.1 (TX0 3).2.2.1 ∈ wsX8_update := by decide +kernel
  obtain ⟨Q, hQ⟩ : ∃ Q, Q = gq_Qv below D A args s [(h_t_, .inr (8, [.ref h_spread, .ref h_counts])), (h_spread, .inl (cI, 24, .inl w_spread)), (h_counts, .inl (cI, 768, .inl w_counts)), (h_p1, .inr (9, [.int v_p1_segmentCount, .int v_p1_wordCount, .ref h_p1_order, .ref h_p1_durations, .ref h_p1_pauses, .ref h_p1_sizes, .ref h_p1_words, .ref h_p1_names])), (h_p1_order, .inl (cI, 32, .inl v_p1_order)), (h_p1_sizes, .inl (cI, 32, .inl v_p1_sizes)), (h_p1_words, .inl (cI, 256, .inl v_p1_words)), (h_p2, .inr (0, [.int v_p2_chapterCount, .int v_p2_bestWorth, .ref h_p2_changes, .ref h_p2_firsts, .ref h_p2_chapterAt, .ref h_p2_worths, .ref h_p2_cutCounts, .ref h_p2_lasts, .ref h_p2_starts, .ref h_p2_ways, .ref h_p2_left, .ref h_p2_right, .int v_p2_segmentCount, .int v_p2_least, .int v_p2_most])), (h_p2_firsts, .inl (cI, 32, .inl v_p2_firsts))] 0 0 := ⟨_, rfl⟩
  rw [← hQ]
  refine gq_loc [(0, .ref h_t_), (1, .ref h_p1), (2, .ref h_p2)] rfl ?_
  unfold F_X8_update at hF
  refine gq_aload_n hC 0 dX8_update_0 rfl rfl ?_
  refine gq_get hC (kf := 1) 0 hin_X8 rfl rfl (by decide) hw_15 rfl dX8_update_1 ?_
  refine gq_iconst hC (0 : Int32) dX8_update_4 (by decide) ?_
  obtain ⟨v_counts_1, hc_, hF⟩ := ob1_e hF
  refine gq_callWv hC [2] [(h_t_, .inr (8, [.ref h_spread, .ref h_counts])), (h_spread, .inl (cI, 24, .inl v_spread)), (h_counts, .inl (cI, 768, .inl v_counts_1)), (h_p1, .inr (9, [.int v_p1_segmentCount, .int v_p1_wordCount, .ref h_p1_order, .ref h_p1_durations, .ref h_p1_pauses, .ref h_p1_sizes, .ref h_p1_words, .ref h_p1_names])), (h_p1_order, .inl (cI, 32, .inl v_p1_order)), (h_p1_sizes, .inl (cI, 32, .inl v_p1_sizes)), (h_p1_words, .inl (cI, 256, .inl v_p1_words)), (h_p2, .inr (0, [.int v_p2_chapterCount, .int v_p2_bestWorth, .ref h_p2_changes, .ref h_p2_firsts, .ref h_p2_chapterAt, .ref h_p2_worths, .ref h_p2_cutCounts, .ref h_p2_lasts, .ref h_p2_starts, .ref h_p2_ways, .ref h_p2_left, .ref h_p2_right, .int v_p2_segmentCount, .int v_p2_least, .int v_p2_most])), (h_p2_firsts, .inl (cI, 32, .inl v_p2_firsts))] [.ref h_counts, .int (0 : Int32)] [] (k_J7_fill_53178 l D cI cJ cZ cO z 768 h_counts (0 : Int32) v_counts v_counts_1 hc_) gX8_update_J7_fill_53178 rfl ⟨rfl, rfl⟩ hy_J7_fill_53178 ⟨Nat.le_of_ble_eq_true rfl, Nat.le_of_ble_eq_true rfl⟩ rfl rfl rfl (Nat.le_of_ble_eq_true rfl) rfl dX8_update_5 rfl rfl ?_
  refine gq_aload_n hC 0 dX8_update_8 rfl rfl ?_
  refine gq_get hC (kf := 0) 0 hin_X8 rfl rfl (by decide) hw_9 rfl dX8_update_9 ?_
  refine gq_iconst hC (0 : Int32) dX8_update_12 (by decide) ?_
  obtain ⟨v_spread_2, hc_, hF⟩ := ob1_e hF
  refine gq_callWv hC [1] [(h_t_, .inr (8, [.ref h_spread, .ref h_counts])), (h_spread, .inl (cI, 24, .inl v_spread_2)), (h_counts, .inl (cI, 768, .inl v_counts_1)), (h_p1, .inr (9, [.int v_p1_segmentCount, .int v_p1_wordCount, .ref h_p1_order, .ref h_p1_durations, .ref h_p1_pauses, .ref h_p1_sizes, .ref h_p1_words, .ref h_p1_names])), (h_p1_order, .inl (cI, 32, .inl v_p1_order)), (h_p1_sizes, .inl (cI, 32, .inl v_p1_sizes)), (h_p1_words, .inl (cI, 256, .inl v_p1_words)), (h_p2, .inr (0, [.int v_p2_chapterCount, .int v_p2_bestWorth, .ref h_p2_changes, .ref h_p2_firsts, .ref h_p2_chapterAt, .ref h_p2_worths, .ref h_p2_cutCounts, .ref h_p2_lasts, .ref h_p2_starts, .ref h_p2_ways, .ref h_p2_left, .ref h_p2_right, .int v_p2_segmentCount, .int v_p2_least, .int v_p2_most])), (h_p2_firsts, .inl (cI, 32, .inl v_p2_firsts))] [.ref h_spread, .int (0 : Int32)] [] (k_J7_fill_53178 l D cI cJ cZ cO z 24 h_spread (0 : Int32) v_spread v_spread_2 hc_) gX8_update_J7_fill_53178 rfl ⟨rfl, rfl⟩ hy_J7_fill_53178 ⟨Nat.le_of_ble_eq_true rfl, Nat.le_of_ble_eq_true rfl⟩ rfl rfl rfl (Nat.le_of_ble_eq_true rfl) rfl dX8_update_13 rfl rfl ?_
  refine gq_iconst hC (0 : Int32) dX8_update_16 (by decide) ?_
  refine gq_istore_n hC [(3, .int (0 : Int32)), (0, .ref h_t_), (1, .ref h_p1), (2, .ref h_p2)] dX8_update_17 rfl (by decide) rfl ?_
  have lp18 : ∀ (e_27 : (Nat → Int32)) (e_28 : (Nat → Int32)), Gx p l e (rmD 2) s m args below meth c D A 6 Q 0 0 103 [] [] [(h_t_, .inr (8, [.ref h_spread, .ref h_counts])), (h_spread, .inl (cI, 24, .inl e_27)), (h_counts, .inl (cI, 768, .inl e_28)), (h_p1, .inr (9, [.int v_p1_segmentCount, .int v_p1_wordCount, .ref h_p1_order, .ref h_p1_durations, .ref h_p1_pauses, .ref h_p1_sizes, .ref h_p1_words, .ref h_p1_names])), (h_p1_order, .inl (cI, 32, .inl v_p1_order)), (h_p1_sizes, .inl (cI, 32, .inl v_p1_sizes)), (h_p1_words, .inl (cI, 256, .inl v_p1_words)), (h_p2, .inr (0, [.int v_p2_chapterCount, .int v_p2_bestWorth, .ref h_p2_changes, .ref h_p2_firsts, .ref h_p2_chapterAt, .ref h_p2_worths, .ref h_p2_cutCounts, .ref h_p2_lasts, .ref h_p2_starts, .ref h_p2_ways, .ref h_p2_left, .ref h_p2_right, .int v_p2_segmentCount, .int v_p2_least, .int v_p2_most])), (h_p2_firsts, .inl (cI, 32, .inl v_p2_firsts))] → ∀ (N : Nat) (l3_3 : Int32) (v_spread_4 : Nat → Int32) (v_counts_5 : Nat → Int32), wh (fun k q => S_X8_update_18 v_p1_order v_p1_sizes v_p1_words v_p2_chapterCount v_p2_segmentCount v_p2_firsts k q.1 q.2.1 q.2.2) N (l3_3, v_spread_4, v_counts_5) = some (e_27, e_28) → Gx p l e (rmD 2) s m args below meth c D A 6 Q 0 0 18 [(0, .ref h_t_), (1, .ref h_p1), (2, .ref h_p2), (3, .int l3_3)] [] [(h_t_, .inr (8, [.ref h_spread, .ref h_counts])), (h_spread, .inl (cI, 24, .inl v_spread_4)), (h_counts, .inl (cI, 768, .inl v_counts_5)), (h_p1, .inr (9, [.int v_p1_segmentCount, .int v_p1_wordCount, .ref h_p1_order, .ref h_p1_durations, .ref h_p1_pauses, .ref h_p1_sizes, .ref h_p1_words, .ref h_p1_names])), (h_p1_order, .inl (cI, 32, .inl v_p1_order)), (h_p1_sizes, .inl (cI, 32, .inl v_p1_sizes)), (h_p1_words, .inl (cI, 256, .inl v_p1_words)), (h_p2, .inr (0, [.int v_p2_chapterCount, .int v_p2_bestWorth, .ref h_p2_changes, .ref h_p2_firsts, .ref h_p2_chapterAt, .ref h_p2_worths, .ref h_p2_cutCounts, .ref h_p2_lasts, .ref h_p2_starts, .ref h_p2_ways, .ref h_p2_left, .ref h_p2_right, .int v_p2_segmentCount, .int v_p2_least, .int v_p2_most])), (h_p2_firsts, .inl (cI, 32, .inl v_p2_firsts))] := by
    intro e_27 e_28 hx0 N
    induction N with
    | zero => intro l3_3 v_spread_4 v_counts_5 hw; exact absurd hw (wh_0 _ _ _)
    | succ N ih =>
      intro l3_3 v_spread_4 v_counts_5 hw
      have hF : S_X8_update_18 v_p1_order v_p1_sizes v_p1_words v_p2_chapterCount v_p2_segmentCount v_p2_firsts (wh (fun k q => S_X8_update_18 v_p1_order v_p1_sizes v_p1_words v_p2_chapterCount v_p2_segmentCount v_p2_firsts k q.1 q.2.1 q.2.2) N) l3_3 v_spread_4 v_counts_5 = some (e_27, e_28) := hw
      unfold S_X8_update_18 at hF
      refine gq_iload_n hC 3 dX8_update_18 rfl rfl ?_
      refine gq_aload_n hC 2 dX8_update_19 rfl rfl ?_
      refine gq_get hC (kf := 0) 7 hin_X0 rfl rfl (by decide) hw_24 rfl dX8_update_20 ?_
      refine gq_icmp_ge hC 103 dX8_update_23 (by decide) (fun hc_26 => ?_) (fun hc_26 => ?_)
      · have hF := (if_pos hc_26).symm.trans hF
        refine gq_sub [] [] rfl ?_
        cases hF
        exact hx0
      · have hF := (if_neg hc_26).symm.trans hF
        refine gq_iload_n hC 3 dX8_update_26 rfl rfl ?_
        refine gq_bipush hC (24 : Int32) dX8_update_27 (by decide) ?_
        refine gq_imul hC dX8_update_29 ?_
        refine gq_istore hC [(4, .int (l3_3 * (24 : Int32))), (0, .ref h_t_), (1, .ref h_p1), (2, .ref h_p2), (3, .int l3_3)] dX8_update_30 (by decide) rfl ?_
        refine gq_aload_n hC 2 dX8_update_32 rfl rfl ?_
        refine gq_aload_n hC 3 dX8_update_33 rfl rfl ?_
        refine gq_get hC (kf := 3) 7 hin_X0 rfl rfl (by decide) hw_30 rfl dX8_update_34 ?_
        refine gq_iload_n hC 4 dX8_update_37 rfl rfl ?_
        obtain ⟨hi_6, hF⟩ := gi_e hF
        refine gq_iald hC 8 0 rfl rfl hi_6 dX8_update_38 ?_
        refine gq_aload_n hC 3 dX8_update_39 rfl rfl ?_
        refine gq_iload_n hC 4 dX8_update_40 rfl rfl ?_
        obtain ⟨r_7, hc_, hF⟩ := ob1_e hF
        refine gq_callVi hC [7, 8] [(h_t_, .inr (8, [.ref h_spread, .ref h_counts])), (h_spread, .inl (cI, 24, .inl v_spread_4)), (h_counts, .inl (cI, 768, .inl v_counts_5)), (h_p1, .inr (9, [.int v_p1_segmentCount, .int v_p1_wordCount, .ref h_p1_order, .ref h_p1_durations, .ref h_p1_pauses, .ref h_p1_sizes, .ref h_p1_words, .ref h_p1_names])), (h_p1_order, .inl (cI, 32, .inl v_p1_order)), (h_p1_sizes, .inl (cI, 32, .inl v_p1_sizes)), (h_p1_words, .inl (cI, 256, .inl v_p1_words)), (h_p2, .inr (0, [.int v_p2_chapterCount, .int v_p2_bestWorth, .ref h_p2_changes, .ref h_p2_firsts, .ref h_p2_chapterAt, .ref h_p2_worths, .ref h_p2_cutCounts, .ref h_p2_lasts, .ref h_p2_starts, .ref h_p2_ways, .ref h_p2_left, .ref h_p2_right, .int v_p2_segmentCount, .int v_p2_least, .int v_p2_most])), (h_p2_firsts, .inl (cI, 32, .inl v_p2_firsts))] [.int l3_3] [.int (v_p2_firsts l3_3.toNatClampNeg), .ref h_p1] (k_X0_lastOf l D cI cJ cZ cO z h_p2 h_p2_firsts h_p2_changes h_p2_chapterAt h_p2_worths h_p2_cutCounts h_p2_lasts h_p2_starts h_p2_ways h_p2_left h_p2_right l3_3 v_p2_chapterCount v_p2_bestWorth v_p2_segmentCount v_p2_least v_p2_most v_p2_firsts r_7 hc_) gX8_update_X0_lastOf rfl ⟨rfl, rfl⟩ hy_X0_lastOf ⟨Nat.le_of_ble_eq_true rfl, Nat.le_of_ble_eq_true rfl⟩ rfl rfl rfl (q0 := 0) rfl rfl rfl (Nat.le_of_ble_eq_true rfl) rfl dX8_update_41 rfl rfl ?_
        refine gq_aload_n hC 1 dX8_update_44 rfl rfl ?_
        refine gq_get hC (kf := 1) 0 hin_X8 rfl rfl (by decide) hw_15 rfl dX8_update_45 ?_
        refine gq_iload hC 0 dX8_update_48 rfl ?_
        obtain ⟨v_counts_8, hc_, hF⟩ := ob1_e hF
        refine gq_callVv hC [3, 4, 5, 6, 2] [(h_t_, .inr (8, [.ref h_spread, .ref h_counts])), (h_spread, .inl (cI, 24, .inl v_spread_4)), (h_counts, .inl (cI, 768, .inl v_counts_8)), (h_p1, .inr (9, [.int v_p1_segmentCount, .int v_p1_wordCount, .ref h_p1_order, .ref h_p1_durations, .ref h_p1_pauses, .ref h_p1_sizes, .ref h_p1_words, .ref h_p1_names])), (h_p1_order, .inl (cI, 32, .inl v_p1_order)), (h_p1_sizes, .inl (cI, 32, .inl v_p1_sizes)), (h_p1_words, .inl (cI, 256, .inl v_p1_words)), (h_p2, .inr (0, [.int v_p2_chapterCount, .int v_p2_bestWorth, .ref h_p2_changes, .ref h_p2_firsts, .ref h_p2_chapterAt, .ref h_p2_worths, .ref h_p2_cutCounts, .ref h_p2_lasts, .ref h_p2_starts, .ref h_p2_ways, .ref h_p2_left, .ref h_p2_right, .int v_p2_segmentCount, .int v_p2_least, .int v_p2_most])), (h_p2_firsts, .inl (cI, 32, .inl v_p2_firsts))] [.int (v_p2_firsts l3_3.toNatClampNeg), .int r_7, .ref h_counts, .int (l3_3 * (24 : Int32))] [] (k_X9_tally l D cI cJ cZ cO z 768 h_p1 h_p1_order h_p1_sizes h_p1_words h_counts h_p1_durations h_p1_pauses h_p1_names (v_p2_firsts l3_3.toNatClampNeg) r_7 (l3_3 * (24 : Int32)) v_p1_segmentCount v_p1_wordCount v_p1_order v_p1_sizes v_p1_words v_counts_5 v_counts_8 hc_) gX8_update_X9_tally rfl ⟨rfl, rfl⟩ hy_X9_tally ⟨Nat.le_of_ble_eq_true rfl, Nat.le_of_ble_eq_true rfl⟩ rfl rfl rfl (q0 := 0) rfl rfl rfl (Nat.le_of_ble_eq_true rfl) rfl dX8_update_50 rfl rfl ?_
        refine gq_iconst hC (0 : Int32) dX8_update_53 (by decide) ?_
        refine gq_istore hC [(5, .int (0 : Int32)), (4, .int (l3_3 * (24 : Int32))), (0, .ref h_t_), (1, .ref h_p1), (2, .ref h_p2), (3, .int l3_3)] dX8_update_54 (by decide) rfl ?_
        have lp56 : ∀ (l3_9 : Int32) (l4_10 : Int32) (v_counts_13 : Nat → Int32), ∀ (e_24 : (Nat → Int32)), Gx p l e (rmD 2) s m args below meth c D A 6 Q 0 0 97 [(0, .ref h_t_), (1, .ref h_p1), (2, .ref h_p2), (3, .int l3_9)] [] [(h_t_, .inr (8, [.ref h_spread, .ref h_counts])), (h_spread, .inl (cI, 24, .inl e_24)), (h_counts, .inl (cI, 768, .inl v_counts_13)), (h_p1, .inr (9, [.int v_p1_segmentCount, .int v_p1_wordCount, .ref h_p1_order, .ref h_p1_durations, .ref h_p1_pauses, .ref h_p1_sizes, .ref h_p1_words, .ref h_p1_names])), (h_p1_order, .inl (cI, 32, .inl v_p1_order)), (h_p1_sizes, .inl (cI, 32, .inl v_p1_sizes)), (h_p1_words, .inl (cI, 256, .inl v_p1_words)), (h_p2, .inr (0, [.int v_p2_chapterCount, .int v_p2_bestWorth, .ref h_p2_changes, .ref h_p2_firsts, .ref h_p2_chapterAt, .ref h_p2_worths, .ref h_p2_cutCounts, .ref h_p2_lasts, .ref h_p2_starts, .ref h_p2_ways, .ref h_p2_left, .ref h_p2_right, .int v_p2_segmentCount, .int v_p2_least, .int v_p2_most])), (h_p2_firsts, .inl (cI, 32, .inl v_p2_firsts))] → ∀ (N : Nat) (l5_11 : Int32) (v_spread_12 : Nat → Int32), wh (fun k q => S_X8_update_56 l3_9 l4_10 v_counts_13 v_p1_order v_p1_sizes v_p1_words v_p2_chapterCount v_p2_segmentCount v_p2_firsts k q.1 q.2) N (l5_11, v_spread_12) = some e_24 → Gx p l e (rmD 2) s m args below meth c D A 6 Q 0 0 56 [(0, .ref h_t_), (1, .ref h_p1), (2, .ref h_p2), (3, .int l3_9), (4, .int l4_10), (5, .int l5_11)] [] [(h_t_, .inr (8, [.ref h_spread, .ref h_counts])), (h_spread, .inl (cI, 24, .inl v_spread_12)), (h_counts, .inl (cI, 768, .inl v_counts_13)), (h_p1, .inr (9, [.int v_p1_segmentCount, .int v_p1_wordCount, .ref h_p1_order, .ref h_p1_durations, .ref h_p1_pauses, .ref h_p1_sizes, .ref h_p1_words, .ref h_p1_names])), (h_p1_order, .inl (cI, 32, .inl v_p1_order)), (h_p1_sizes, .inl (cI, 32, .inl v_p1_sizes)), (h_p1_words, .inl (cI, 256, .inl v_p1_words)), (h_p2, .inr (0, [.int v_p2_chapterCount, .int v_p2_bestWorth, .ref h_p2_changes, .ref h_p2_firsts, .ref h_p2_chapterAt, .ref h_p2_worths, .ref h_p2_cutCounts, .ref h_p2_lasts, .ref h_p2_starts, .ref h_p2_ways, .ref h_p2_left, .ref h_p2_right, .int v_p2_segmentCount, .int v_p2_least, .int v_p2_most])), (h_p2_firsts, .inl (cI, 32, .inl v_p2_firsts))] := by
          intro l3_9 l4_10 v_counts_13 e_24 hx0 N
          induction N with
          | zero => intro l5_11 v_spread_12 hw; exact absurd hw (wh_0 _ _ _)
          | succ N ih =>
            have jb89 : ∀ (l5_14 : Int32) (st_15 : Int32) (st_16 : Int32) (st_17 : Int32) (v_spread_18 : Nat → Int32), F_X8_update_b89 (wh (fun k q => S_X8_update_56 l3_9 l4_10 v_counts_13 v_p1_order v_p1_sizes v_p1_words v_p2_chapterCount v_p2_segmentCount v_p2_firsts k q.1 q.2) N) l3_9 l4_10 l5_14 st_15 st_16 st_17 v_spread_18 v_counts_13 v_p1_order v_p1_sizes v_p1_words v_p2_chapterCount v_p2_segmentCount v_p2_firsts = some e_24 → Gx p l e (rmD 2) s m args below meth c D A 6 Q 0 0 89 [(0, .ref h_t_), (1, .ref h_p1), (2, .ref h_p2), (3, .int l3_9), (4, .int l4_10), (5, .int l5_14)] [.int st_15, .int st_16, .int st_17, .ref h_spread] [(h_t_, .inr (8, [.ref h_spread, .ref h_counts])), (h_spread, .inl (cI, 24, .inl v_spread_18)), (h_counts, .inl (cI, 768, .inl v_counts_13)), (h_p1, .inr (9, [.int v_p1_segmentCount, .int v_p1_wordCount, .ref h_p1_order, .ref h_p1_durations, .ref h_p1_pauses, .ref h_p1_sizes, .ref h_p1_words, .ref h_p1_names])), (h_p1_order, .inl (cI, 32, .inl v_p1_order)), (h_p1_sizes, .inl (cI, 32, .inl v_p1_sizes)), (h_p1_words, .inl (cI, 256, .inl v_p1_words)), (h_p2, .inr (0, [.int v_p2_chapterCount, .int v_p2_bestWorth, .ref h_p2_changes, .ref h_p2_firsts, .ref h_p2_chapterAt, .ref h_p2_worths, .ref h_p2_cutCounts, .ref h_p2_lasts, .ref h_p2_starts, .ref h_p2_ways, .ref h_p2_left, .ref h_p2_right, .int v_p2_segmentCount, .int v_p2_least, .int v_p2_most])), (h_p2_firsts, .inl (cI, 32, .inl v_p2_firsts))] := by
              intro l5_14 st_15 st_16 st_17 v_spread_18 hF
              unfold F_X8_update_b89 at hF
              refine gq_iadd hC dX8_update_89 ?_
              obtain ⟨hi_19, hF⟩ := gi_e hF
              refine gq_iast hC 1 0 [(h_t_, .inr (8, [.ref h_spread, .ref h_counts])), (h_spread, .inl (cI, 24, .inl (upd v_spread_18 st_17.toNatClampNeg (st_16 + st_15)))), (h_counts, .inl (cI, 768, .inl v_counts_13)), (h_p1, .inr (9, [.int v_p1_segmentCount, .int v_p1_wordCount, .ref h_p1_order, .ref h_p1_durations, .ref h_p1_pauses, .ref h_p1_sizes, .ref h_p1_words, .ref h_p1_names])), (h_p1_order, .inl (cI, 32, .inl v_p1_order)), (h_p1_sizes, .inl (cI, 32, .inl v_p1_sizes)), (h_p1_words, .inl (cI, 256, .inl v_p1_words)), (h_p2, .inr (0, [.int v_p2_chapterCount, .int v_p2_bestWorth, .ref h_p2_changes, .ref h_p2_firsts, .ref h_p2_chapterAt, .ref h_p2_worths, .ref h_p2_cutCounts, .ref h_p2_lasts, .ref h_p2_starts, .ref h_p2_ways, .ref h_p2_left, .ref h_p2_right, .int v_p2_segmentCount, .int v_p2_least, .int v_p2_most])), (h_p2_firsts, .inl (cI, 32, .inl v_p2_firsts))] rfl rfl hi_19 dX8_update_90 rfl ?_
              refine gq_iinc hC 5 (l5_14 + (1 : Int32)) [(5, .int (l5_14 + (1 : Int32))), (0, .ref h_t_), (1, .ref h_p1), (2, .ref h_p2), (3, .int l3_9), (4, .int l4_10)] dX8_update_91 rfl rfl (by decide) rfl ?_
              refine gq_goto hC 56 dX8_update_94 (by decide) ?_
              refine gq_sub [(0, .ref h_t_), (1, .ref h_p1), (2, .ref h_p2), (3, .int l3_9), (4, .int l4_10), (5, .int (l5_14 + (1 : Int32)))] [1, 2, 3, 4, 5, 0] rfl ?_
              exact ih (l5_14 + (1 : Int32)) (upd v_spread_18 st_17.toNatClampNeg (st_16 + st_15)) hF
            intro l5_11 v_spread_12 hw
            have hF : S_X8_update_56 l3_9 l4_10 v_counts_13 v_p1_order v_p1_sizes v_p1_words v_p2_chapterCount v_p2_segmentCount v_p2_firsts (wh (fun k q => S_X8_update_56 l3_9 l4_10 v_counts_13 v_p1_order v_p1_sizes v_p1_words v_p2_chapterCount v_p2_segmentCount v_p2_firsts k q.1 q.2) N) l5_11 v_spread_12 = some e_24 := hw
            unfold S_X8_update_56 at hF
            refine gq_iload hC 5 dX8_update_56 rfl ?_
            refine gq_bipush hC (24 : Int32) dX8_update_58 (by decide) ?_
            refine gq_icmp_ge hC 97 dX8_update_60 (by decide) (fun hc_23 => ?_) (fun hc_23 => ?_)
            · have hF := (if_pos hc_23).symm.trans hF
              refine gq_sub [(0, .ref h_t_), (1, .ref h_p1), (2, .ref h_p2), (3, .int l3_9)] [0, 1, 2, 3] rfl ?_
              cases hF
              exact hx0
            · have hF := (if_neg hc_23).symm.trans hF
              refine gq_aload_n hC 0 dX8_update_63 rfl rfl ?_
              refine gq_get hC (kf := 0) 0 hin_X8 rfl rfl (by decide) hw_9 rfl dX8_update_64 ?_
              refine gq_iload hC 5 dX8_update_67 rfl ?_
              refine gq_dup2 hC dX8_update_69 rfl rfl ?_
              obtain ⟨hi_20, hF⟩ := gi_e hF
              refine gq_iald hC 1 0 rfl rfl hi_20 dX8_update_70 ?_
              refine gq_aload_n hC 0 dX8_update_71 rfl rfl ?_
              refine gq_get hC (kf := 1) 0 hin_X8 rfl rfl (by decide) hw_15 rfl dX8_update_72 ?_
              refine gq_iload hC 4 dX8_update_75 rfl ?_
              refine gq_iload hC 5 dX8_update_77 rfl ?_
              refine gq_iadd hC dX8_update_79 ?_
              obtain ⟨hi_21, hF⟩ := gi_e hF
              refine gq_iald hC 2 0 rfl rfl hi_21 dX8_update_80 ?_
              refine gq_if_le hC 88 dX8_update_81 (by decide) (fun hc_22 => ?_) (fun hc_22 => ?_)
              · have hF := (if_pos hc_22).symm.trans hF
                refine gq_iconst hC (0 : Int32) dX8_update_88 (by decide) ?_
                exact jb89 l5_11 (0 : Int32) (v_spread_12 l5_11.toNatClampNeg) l5_11 v_spread_12 hF
              · have hF := (if_neg hc_22).symm.trans hF
                refine gq_iconst hC (1 : Int32) dX8_update_84 (by decide) ?_
                refine gq_goto hC 89 dX8_update_85 (by decide) ?_
                exact jb89 l5_11 (1 : Int32) (v_spread_12 l5_11.toNatClampNeg) l5_11 v_spread_12 hF
        refine gq_sub [(0, .ref h_t_), (1, .ref h_p1), (2, .ref h_p2), (3, .int l3_3), (4, .int (l3_3 * (24 : Int32))), (5, .int (0 : Int32))] [2, 3, 4, 5, 1, 0] rfl ?_
        obtain ⟨e_25, hw_, hF⟩ := ob1_e hF
        refine lp56 l3_3 (l3_3 * (24 : Int32)) v_counts_8 e_25 ?_ wF (0 : Int32) v_spread_4 hw_
        refine gq_iinc hC 3 (l3_3 + (1 : Int32)) [(3, .int (l3_3 + (1 : Int32))), (0, .ref h_t_), (1, .ref h_p1), (2, .ref h_p2)] dX8_update_97 rfl rfl (by decide) rfl ?_
        refine gq_goto hC 18 dX8_update_100 (by decide) ?_
        refine gq_sub [(0, .ref h_t_), (1, .ref h_p1), (2, .ref h_p2), (3, .int (l3_3 + (1 : Int32)))] [1, 2, 3, 0] rfl ?_
        exact ih (l3_3 + (1 : Int32)) e_25 v_counts_8 hF
  refine gq_sub [(0, .ref h_t_), (1, .ref h_p1), (2, .ref h_p2), (3, .int (0 : Int32))] [1, 2, 3, 0] rfl ?_
  obtain ⟨e_29, e_30, hw_, hF⟩ := ob2_e hF
  refine lp18  e_29 e_30 ?_ wF (0 : Int32) v_spread_2 v_counts_1 hw_
  cases hF
  rw [hQ]
  exact gq_vret hC dX8_update_103
theorem hy_X8_stands : yX8_stands.cls = RX8 ∧ yX8_stands.cls ≠ "java/lang/invoke/MethodHandle" ∧ yX8_stands.cls ≠ "java/lang/invoke/VarHandle" ∧ (parseMethodDescriptor yX8_stands.desc).map (fun d => d.parameters.length) = some 2 := by decide +kernel
set_option maxRecDepth 20000 in
set_option maxHeartbeats 4000000 in
theorem k_X8_stands (l : Launch) (D : va_G) (cI cJ cZ cO : ClassId) (z : Nat → Nat)   (h_t_ : Nat) (h_counts : Nat) (h_spread : Nat) (x1 : Int32) (x2 : Int32) (v_counts : Nat → Int32) (r_ : Int32) (hF : F_X8_stands x1 x2 v_counts = some r_) : Mi l yX8_stands wsX8_stands (rmD 0) D (gq_ty cI cJ cZ cO) z [.ref h_t_, .int x1, .int x2] [(h_t_, .inr (8, [.ref h_spread, .ref h_counts])), (h_counts, .inl (cI, 768, .inl v_counts))] r_ [(h_t_, .inr (8, [.ref h_spread, .ref h_counts])), (h_counts, .inl (cI, 768, .inl v_counts))] 0 0 := by
  refine Mi.of (cc := cX8_stands) (maxL := 3) (by decide) rfl (Nat.le_of_ble_eq_true rfl) ⟨Nat.le_refl 0, Nat.le_refl 0⟩ ?_
  intro p e s m args below meth c A hC ha
  have hin_X8 : ∀ w ∈ wsX80, w ∈ wsX8_stands := by decide +kernel
  have hw_15 : Cond.fieldLink RX8 15 (TX8 1).1 (TX8 1).2.1 (TX8 1).2.2.1 ∈ wsX8_stands := by decide +kernel
  obtain ⟨Q, hQ⟩ : ∃ Q, Q = gq_Qi below D A args s r_ [(h_t_, .inr (8, [.ref h_spread, .ref h_counts])), (h_counts, .inl (cI, 768, .inl v_counts))] 0 0 := ⟨_, rfl⟩
  rw [← hQ]
  refine gq_loc [(0, .ref h_t_), (1, .int x1), (2, .int x2)] rfl ?_
  unfold F_X8_stands at hF
  refine gq_aload_n hC 0 dX8_stands_0 rfl rfl ?_
  refine gq_get hC (kf := 1) 0 hin_X8 rfl rfl (by decide) hw_15 rfl dX8_stands_1 ?_
  refine gq_iload_n hC 1 dX8_stands_4 rfl rfl ?_
  refine gq_bipush hC (24 : Int32) dX8_stands_5 (by decide) ?_
  refine gq_imul hC dX8_stands_7 ?_
  refine gq_iload_n hC 2 dX8_stands_8 rfl rfl ?_
  refine gq_iadd hC dX8_stands_9 ?_
  obtain ⟨hi_1, hF⟩ := gi_e hF
  refine gq_iald hC 1 0 rfl rfl hi_1 dX8_stands_10 ?_
  refine gq_if_le hC 18 dX8_stands_11 (by decide) (fun hc_2 => ?_) (fun hc_2 => ?_)
  · have hF := (if_pos hc_2).symm.trans hF
    refine gq_iconst hC (0 : Int32) dX8_stands_18 (by decide) ?_
    cases hF
    rw [hQ]
    exact gq_iret hC rfl dX8_stands_19
  · have hF := (if_neg hc_2).symm.trans hF
    refine gq_iconst hC (1 : Int32) dX8_stands_14 (by decide) ?_
    refine gq_goto hC 19 dX8_stands_15 (by decide) ?_
    cases hF
    rw [hQ]
    exact gq_iret hC rfl dX8_stands_19
theorem hy_X8_differentWords : yX8_differentWords.cls = RX8 ∧ yX8_differentWords.cls ≠ "java/lang/invoke/MethodHandle" ∧ yX8_differentWords.cls ≠ "java/lang/invoke/VarHandle" ∧ (parseMethodDescriptor yX8_differentWords.desc).map (fun d => d.parameters.length) = some 1 := by decide +kernel
set_option maxRecDepth 20000 in
set_option maxHeartbeats 4000000 in
theorem k_X8_differentWords (l : Launch) (D : va_G) (cI cJ cZ cO : ClassId) (z : Nat → Nat)   (h_t_ : Nat) (h_counts : Nat) (h_spread : Nat) (x1 : Int32) (v_counts : Nat → Int32) (r_ : Int32) (hF : F_X8_differentWords x1 v_counts = some r_) : Mi l yX8_differentWords wsX8_differentWords (rmD 1) D (gq_ty cI cJ cZ cO) z [.ref h_t_, .int x1] [(h_t_, .inr (8, [.ref h_spread, .ref h_counts])), (h_counts, .inl (cI, 768, .inl v_counts))] r_ [(h_t_, .inr (8, [.ref h_spread, .ref h_counts])), (h_counts, .inl (cI, 768, .inl v_counts))] 0 0 := by
  refine Mi.of (cc := cX8_differentWords) (maxL := 4) (by decide) rfl (Nat.le_of_ble_eq_true rfl) ⟨Nat.le_refl 0, Nat.le_refl 0⟩ ?_
  intro p e s m args below meth c A hC ha
  obtain ⟨Q, hQ⟩ : ∃ Q, Q = gq_Qi below D A args s r_ [(h_t_, .inr (8, [.ref h_spread, .ref h_counts])), (h_counts, .inl (cI, 768, .inl v_counts))] 0 0 := ⟨_, rfl⟩
  rw [← hQ]
  refine gq_loc [(0, .ref h_t_), (1, .int x1)] rfl ?_
  unfold F_X8_differentWords at hF
  refine gq_iconst hC (0 : Int32) dX8_differentWords_0 (by decide) ?_
  refine gq_istore_n hC [(2, .int (0 : Int32)), (0, .ref h_t_), (1, .int x1)] dX8_differentWords_1 rfl (by decide) rfl ?_
  refine gq_iconst hC (0 : Int32) dX8_differentWords_2 (by decide) ?_
  refine gq_istore_n hC [(3, .int (0 : Int32)), (2, .int (0 : Int32)), (0, .ref h_t_), (1, .int x1)] dX8_differentWords_3 rfl (by decide) rfl ?_
  have lp4 : ∀ (e_6 : Int32), Gx p l e (rmD 1) s m args below meth c D A 4 Q 0 0 28 [(2, .int e_6)] [] [(h_t_, .inr (8, [.ref h_spread, .ref h_counts])), (h_counts, .inl (cI, 768, .inl v_counts))] → ∀ (N : Nat) (l2_1 : Int32) (l3_2 : Int32), wh (fun k q => S_X8_differentWords_4 x1 v_counts k q.1 q.2) N (l2_1, l3_2) = some e_6 → Gx p l e (rmD 1) s m args below meth c D A 4 Q 0 0 4 [(0, .ref h_t_), (1, .int x1), (2, .int l2_1), (3, .int l3_2)] [] [(h_t_, .inr (8, [.ref h_spread, .ref h_counts])), (h_counts, .inl (cI, 768, .inl v_counts))] := by
    intro e_6 hx0 N
    induction N with
    | zero => intro l2_1 l3_2 hw; exact absurd hw (wh_0 _ _ _)
    | succ N ih =>
      intro l2_1 l3_2 hw
      have hF : S_X8_differentWords_4 x1 v_counts (wh (fun k q => S_X8_differentWords_4 x1 v_counts k q.1 q.2) N) l2_1 l3_2 = some e_6 := hw
      unfold S_X8_differentWords_4 at hF
      refine gq_iload_n hC 3 dX8_differentWords_4 rfl rfl ?_
      refine gq_bipush hC (24 : Int32) dX8_differentWords_5 (by decide) ?_
      refine gq_icmp_ge hC 28 dX8_differentWords_7 (by decide) (fun hc_5 => ?_) (fun hc_5 => ?_)
      · have hF := (if_pos hc_5).symm.trans hF
        refine gq_sub [(2, .int l2_1)] [2] rfl ?_
        cases hF
        exact hx0
      · have hF := (if_neg hc_5).symm.trans hF
        refine gq_aload_n hC 0 dX8_differentWords_10 rfl rfl ?_
        refine gq_iload_n hC 1 dX8_differentWords_11 rfl rfl ?_
        refine gq_iload_n hC 3 dX8_differentWords_12 rfl rfl ?_
        obtain ⟨r_3, hc_, hF⟩ := ob1_e hF
        refine gq_callVi hC [0, 1] [(h_t_, .inr (8, [.ref h_spread, .ref h_counts])), (h_counts, .inl (cI, 768, .inl v_counts))] [.int x1, .int l3_2] [] (k_X8_stands l D cI cJ cZ cO z h_t_ h_counts h_spread x1 l3_2 v_counts r_3 hc_) gX8_differentWords_X8_stands rfl ⟨rfl, rfl⟩ hy_X8_stands ⟨Nat.le_of_ble_eq_true rfl, Nat.le_of_ble_eq_true rfl⟩ rfl rfl rfl (q0 := 0) rfl rfl rfl (Nat.le_of_ble_eq_true rfl) rfl dX8_differentWords_13 rfl rfl ?_
        refine gq_if_eq hC 22 dX8_differentWords_16 (by decide) (fun hc_4 => ?_) (fun hc_4 => ?_)
        · have hF := (if_pos hc_4).symm.trans hF
          refine gq_iinc hC 3 (l3_2 + (1 : Int32)) [(3, .int (l3_2 + (1 : Int32))), (0, .ref h_t_), (1, .int x1), (2, .int l2_1)] dX8_differentWords_22 rfl rfl (by decide) rfl ?_
          refine gq_goto hC 4 dX8_differentWords_25 (by decide) ?_
          refine gq_sub [(0, .ref h_t_), (1, .int x1), (2, .int l2_1), (3, .int (l3_2 + (1 : Int32)))] [1, 2, 3, 0] rfl ?_
          exact ih l2_1 (l3_2 + (1 : Int32)) hF
        · have hF := (if_neg hc_4).symm.trans hF
          refine gq_iinc hC 2 (l2_1 + (1 : Int32)) [(2, .int (l2_1 + (1 : Int32))), (0, .ref h_t_), (1, .int x1), (3, .int l3_2)] dX8_differentWords_19 rfl rfl (by decide) rfl ?_
          refine gq_iinc hC 3 (l3_2 + (1 : Int32)) [(3, .int (l3_2 + (1 : Int32))), (2, .int (l2_1 + (1 : Int32))), (0, .ref h_t_), (1, .int x1)] dX8_differentWords_22 rfl rfl (by decide) rfl ?_
          refine gq_goto hC 4 dX8_differentWords_25 (by decide) ?_
          refine gq_sub [(0, .ref h_t_), (1, .int x1), (2, .int (l2_1 + (1 : Int32))), (3, .int (l3_2 + (1 : Int32)))] [2, 3, 1, 0] rfl ?_
          exact ih (l2_1 + (1 : Int32)) (l3_2 + (1 : Int32)) hF
  refine gq_sub [(0, .ref h_t_), (1, .int x1), (2, .int (0 : Int32)), (3, .int (0 : Int32))] [2, 3, 1, 0] rfl ?_
  obtain ⟨e_7, hw_, hF⟩ := ob1_e hF
  refine lp4  e_7 ?_ wF (0 : Int32) (0 : Int32) hw_
  refine gq_iload_n hC 0 dX8_differentWords_28 rfl rfl ?_
  cases hF
  rw [hQ]
  exact gq_iret hC rfl dX8_differentWords_29
theorem hy_X8_markOf : yX8_markOf.cls = RX8 ∧ yX8_markOf.cls ≠ "java/lang/invoke/MethodHandle" ∧ yX8_markOf.cls ≠ "java/lang/invoke/VarHandle" ∧ (parseMethodDescriptor yX8_markOf.desc).map (fun d => d.parameters.length) = some 2 := by decide +kernel
set_option maxRecDepth 20000 in
set_option maxHeartbeats 4000000 in
theorem k_X8_markOf (l : Launch) (D : va_G) (cI cJ cZ cO : ClassId) (z : Nat → Nat)   (h_t_ : Nat) (h_spread : Nat) (h_counts : Nat) (x1 : Int32) (x2 : Int32) (v_spread : Nat → Int32) (v_counts : Nat → Int32) (r_ : Int32) (hF : F_X8_markOf x1 x2 v_spread v_counts = some r_) : Mi l yX8_markOf wsX8_markOf (rmD 0) D (gq_ty cI cJ cZ cO) z [.ref h_t_, .int x1, .int x2] [(h_t_, .inr (8, [.ref h_spread, .ref h_counts])), (h_spread, .inl (cI, 24, .inl v_spread)), (h_counts, .inl (cI, 768, .inl v_counts))] r_ [(h_t_, .inr (8, [.ref h_spread, .ref h_counts])), (h_spread, .inl (cI, 24, .inl v_spread)), (h_counts, .inl (cI, 768, .inl v_counts))] 0 0 := by
  refine Mi.of (cc := cX8_markOf) (maxL := 4) (by decide) rfl (Nat.le_of_ble_eq_true rfl) ⟨Nat.le_refl 0, Nat.le_refl 0⟩ ?_
  intro p e s m args below meth c A hC ha
  have hin_X8 : ∀ w ∈ wsX80, w ∈ wsX8_markOf := by decide +kernel
  have hw_9 : Cond.fieldLink RX8 9 (TX8 0).1 (TX8 0).2.1 (TX8 0).2.2.1 ∈ wsX8_markOf := by decide +kernel
  have hw_15 : Cond.fieldLink RX8 15 (TX8 1).1 (TX8 1).2.1 (TX8 1).2.2.1 ∈ wsX8_markOf := by decide +kernel
  obtain ⟨Q, hQ⟩ : ∃ Q, Q = gq_Qi below D A args s r_ [(h_t_, .inr (8, [.ref h_spread, .ref h_counts])), (h_spread, .inl (cI, 24, .inl v_spread)), (h_counts, .inl (cI, 768, .inl v_counts))] 0 0 := ⟨_, rfl⟩
  rw [← hQ]
  refine gq_loc [(0, .ref h_t_), (1, .int x1), (2, .int x2)] rfl ?_
  unfold F_X8_markOf at hF
  refine gq_aload_n hC 0 dX8_markOf_0 rfl rfl ?_
  refine gq_get hC (kf := 0) 0 hin_X8 rfl rfl (by decide) hw_9 rfl dX8_markOf_1 ?_
  refine gq_iload_n hC 2 dX8_markOf_4 rfl rfl ?_
  obtain ⟨hi_1, hF⟩ := gi_e hF
  refine gq_iald hC 1 0 rfl rfl hi_1 dX8_markOf_5 ?_
  refine gq_istore_n hC [(3, .int (v_spread x2.toNatClampNeg)), (0, .ref h_t_), (1, .int x1), (2, .int x2)] dX8_markOf_6 rfl (by decide) rfl ?_
  refine gq_iload_n hC 0 dX8_markOf_7 rfl rfl ?_
  refine gq_if_ne hC 15 dX8_markOf_8 (by decide) (fun hc_4 => ?_) (fun hc_4 => ?_)
  · have hF := (if_neg hc_4).symm.trans hF
    refine gq_sipush hC (1000 : Int32) dX8_markOf_15 (by decide) ?_
    refine gq_aload_n hC 1 dX8_markOf_18 rfl rfl ?_
    refine gq_get hC (kf := 1) 0 hin_X8 rfl rfl (by decide) hw_15 rfl dX8_markOf_19 ?_
    refine gq_iload_n hC 2 dX8_markOf_22 rfl rfl ?_
    refine gq_bipush hC (24 : Int32) dX8_markOf_23 (by decide) ?_
    refine gq_imul hC dX8_markOf_25 ?_
    refine gq_iload_n hC 3 dX8_markOf_26 rfl rfl ?_
    refine gq_iadd hC dX8_markOf_27 ?_
    obtain ⟨hi_2, hF⟩ := gi_e hF
    refine gq_iald hC 2 0 rfl rfl hi_2 dX8_markOf_28 ?_
    refine gq_imul hC dX8_markOf_29 ?_
    refine gq_iload_n hC 0 dX8_markOf_30 rfl rfl ?_
    obtain ⟨hz_3, hF⟩ := gzi_e hF
    refine gq_idiv hC dX8_markOf_31 hz_3 ?_
    cases hF
    rw [hQ]
    exact gq_iret hC rfl dX8_markOf_32
  · have hF := (if_pos hc_4).symm.trans hF
    refine gq_iconst hC (0 : Int32) dX8_markOf_11 (by decide) ?_
    refine gq_goto hC 32 dX8_markOf_12 (by decide) ?_
    cases hF
    rw [hQ]
    exact gq_iret hC rfl dX8_markOf_32
theorem hy_X8_mostTypical : yX8_mostTypical.cls = RX8 ∧ yX8_mostTypical.cls ≠ "java/lang/invoke/MethodHandle" ∧ yX8_mostTypical.cls ≠ "java/lang/invoke/VarHandle" ∧ (parseMethodDescriptor yX8_mostTypical.desc).map (fun d => d.parameters.length) = some 4 := by decide +kernel
set_option maxRecDepth 20000 in
set_option maxHeartbeats 4000000 in
theorem k_X8_mostTypical (l : Launch) (D : va_G) (cI cJ cZ cO : ClassId) (z : Nat → Nat)   (h_t_ : Nat) (h_spread : Nat) (h_counts : Nat) (h_p1 : Nat) (h_p1_order : Nat) (h_p1_sizes : Nat) (h_p1_words : Nat) (h_p1_durations : Nat) (h_p1_pauses : Nat) (h_p1_names : Nat) (x2 : Int32) (x3 : Int32) (x4 : Int32) (v_spread : Nat → Int32) (v_counts : Nat → Int32) (v_p1_segmentCount : Int32) (v_p1_wordCount : Int32) (v_p1_order : Nat → Int32) (v_p1_sizes : Nat → Int32) (v_p1_words : Nat → Int32) (r_ : Int32) (hF : F_X8_mostTypical x2 x3 x4 v_spread v_counts v_p1_order v_p1_sizes v_p1_words = some r_) : Mi l yX8_mostTypical wsX8_mostTypical (rmD 1) D (gq_ty cI cJ cZ cO) z [.ref h_t_, .ref h_p1, .int x2, .int x3, .int x4] [(h_t_, .inr (8, [.ref h_spread, .ref h_counts])), (h_spread, .inl (cI, 24, .inl v_spread)), (h_counts, .inl (cI, 768, .inl v_counts)), (h_p1, .inr (9, [.int v_p1_segmentCount, .int v_p1_wordCount, .ref h_p1_order, .ref h_p1_durations, .ref h_p1_pauses, .ref h_p1_sizes, .ref h_p1_words, .ref h_p1_names])), (h_p1_order, .inl (cI, 32, .inl v_p1_order)), (h_p1_sizes, .inl (cI, 32, .inl v_p1_sizes)), (h_p1_words, .inl (cI, 256, .inl v_p1_words))] r_ [(h_t_, .inr (8, [.ref h_spread, .ref h_counts])), (h_spread, .inl (cI, 24, .inl v_spread)), (h_counts, .inl (cI, 768, .inl v_counts)), (h_p1, .inr (9, [.int v_p1_segmentCount, .int v_p1_wordCount, .ref h_p1_order, .ref h_p1_durations, .ref h_p1_pauses, .ref h_p1_sizes, .ref h_p1_words, .ref h_p1_names])), (h_p1_order, .inl (cI, 32, .inl v_p1_order)), (h_p1_sizes, .inl (cI, 32, .inl v_p1_sizes)), (h_p1_words, .inl (cI, 256, .inl v_p1_words))] 0 0 := by
  refine Mi.of (cc := cX8_mostTypical) (maxL := 11) (by decide) rfl (Nat.le_of_ble_eq_true rfl) ⟨Nat.le_refl 0, Nat.le_refl 0⟩ ?_
  intro p e s m args below meth c A hC ha
  obtain ⟨Q, hQ⟩ : ∃ Q, Q = gq_Qi below D A args s r_ [(h_t_, .inr (8, [.ref h_spread, .ref h_counts])), (h_spread, .inl (cI, 24, .inl v_spread)), (h_counts, .inl (cI, 768, .inl v_counts)), (h_p1, .inr (9, [.int v_p1_segmentCount, .int v_p1_wordCount, .ref h_p1_order, .ref h_p1_durations, .ref h_p1_pauses, .ref h_p1_sizes, .ref h_p1_words, .ref h_p1_names])), (h_p1_order, .inl (cI, 32, .inl v_p1_order)), (h_p1_sizes, .inl (cI, 32, .inl v_p1_sizes)), (h_p1_words, .inl (cI, 256, .inl v_p1_words))] 0 0 := ⟨_, rfl⟩
  rw [← hQ]
  refine gq_loc [(0, .ref h_t_), (1, .ref h_p1), (2, .int x2), (3, .int x3), (4, .int x4)] rfl ?_
  unfold F_X8_mostTypical at hF
  refine gq_iload_n hC 3 dX8_mostTypical_0 rfl rfl ?_
  refine gq_istore hC [(5, .int x3), (0, .ref h_t_), (1, .ref h_p1), (2, .int x2), (3, .int x3), (4, .int x4)] dX8_mostTypical_1 (by decide) rfl ?_
  refine gq_iconst hC (-1 : Int32) dX8_mostTypical_3 (by decide) ?_
  refine gq_istore hC [(6, .int (-1 : Int32)), (5, .int x3), (0, .ref h_t_), (1, .ref h_p1), (2, .int x2), (3, .int x3), (4, .int x4)] dX8_mostTypical_4 (by decide) rfl ?_
  refine gq_iload_n hC 5 dX8_mostTypical_6 rfl rfl ?_
  refine gq_istore hC [(7, .int x3), (6, .int (-1 : Int32)), (5, .int x3), (0, .ref h_t_), (1, .ref h_p1), (2, .int x2), (3, .int x3), (4, .int x4)] dX8_mostTypical_7 (by decide) rfl ?_
  have lp9 : ∀ (e_18 : Int32), Gx p l e (rmD 1) s m args below meth c D A 11 Q 0 0 82 [(5, .int e_18)] [] [(h_t_, .inr (8, [.ref h_spread, .ref h_counts])), (h_spread, .inl (cI, 24, .inl v_spread)), (h_counts, .inl (cI, 768, .inl v_counts)), (h_p1, .inr (9, [.int v_p1_segmentCount, .int v_p1_wordCount, .ref h_p1_order, .ref h_p1_durations, .ref h_p1_pauses, .ref h_p1_sizes, .ref h_p1_words, .ref h_p1_names])), (h_p1_order, .inl (cI, 32, .inl v_p1_order)), (h_p1_sizes, .inl (cI, 32, .inl v_p1_sizes)), (h_p1_words, .inl (cI, 256, .inl v_p1_words))] → ∀ (N : Nat) (l5_1 : Int32) (l6_2 : Int32) (l7_3 : Int32), wh (fun k q => S_X8_mostTypical_9 x2 x4 v_spread v_counts v_p1_order v_p1_sizes v_p1_words k q.1 q.2.1 q.2.2) N (l5_1, l6_2, l7_3) = some e_18 → Gx p l e (rmD 1) s m args below meth c D A 11 Q 0 0 9 [(0, .ref h_t_), (1, .ref h_p1), (2, .int x2), (4, .int x4), (5, .int l5_1), (6, .int l6_2), (7, .int l7_3)] [] [(h_t_, .inr (8, [.ref h_spread, .ref h_counts])), (h_spread, .inl (cI, 24, .inl v_spread)), (h_counts, .inl (cI, 768, .inl v_counts)), (h_p1, .inr (9, [.int v_p1_segmentCount, .int v_p1_wordCount, .ref h_p1_order, .ref h_p1_durations, .ref h_p1_pauses, .ref h_p1_sizes, .ref h_p1_words, .ref h_p1_names])), (h_p1_order, .inl (cI, 32, .inl v_p1_order)), (h_p1_sizes, .inl (cI, 32, .inl v_p1_sizes)), (h_p1_words, .inl (cI, 256, .inl v_p1_words))] := by
    intro e_18 hx0 N
    induction N with
    | zero => intro l5_1 l6_2 l7_3 hw; exact absurd hw (wh_0 _ _ _)
    | succ N ih =>
      intro l5_1 l6_2 l7_3 hw
      have hF : S_X8_mostTypical_9 x2 x4 v_spread v_counts v_p1_order v_p1_sizes v_p1_words (wh (fun k q => S_X8_mostTypical_9 x2 x4 v_spread v_counts v_p1_order v_p1_sizes v_p1_words k q.1 q.2.1 q.2.2) N) l5_1 l6_2 l7_3 = some e_18 := hw
      unfold S_X8_mostTypical_9 at hF
      refine gq_iload hC 6 dX8_mostTypical_9 rfl ?_
      refine gq_iload hC 3 dX8_mostTypical_11 rfl ?_
      refine gq_icmp_gt hC 82 dX8_mostTypical_13 (by decide) (fun hc_17 => ?_) (fun hc_17 => ?_)
      · have hF := (if_pos hc_17).symm.trans hF
        refine gq_sub [(5, .int l5_1)] [4] rfl ?_
        cases hF
        exact hx0
      · have hF := (if_neg hc_17).symm.trans hF
        refine gq_iconst hC (0 : Int32) dX8_mostTypical_16 (by decide) ?_
        refine gq_istore hC [(8, .int (0 : Int32)), (0, .ref h_t_), (1, .ref h_p1), (2, .int x2), (4, .int x4), (5, .int l5_1), (6, .int l6_2), (7, .int l7_3)] dX8_mostTypical_17 (by decide) rfl ?_
        refine gq_aload_n hC 2 dX8_mostTypical_19 rfl rfl ?_
        refine gq_iload hC 7 dX8_mostTypical_20 rfl ?_
        obtain ⟨r_4, hc_, hF⟩ := ob1_e hF
        refine gq_callVi hC [3, 4, 5] [(h_t_, .inr (8, [.ref h_spread, .ref h_counts])), (h_spread, .inl (cI, 24, .inl v_spread)), (h_counts, .inl (cI, 768, .inl v_counts)), (h_p1, .inr (9, [.int v_p1_segmentCount, .int v_p1_wordCount, .ref h_p1_order, .ref h_p1_durations, .ref h_p1_pauses, .ref h_p1_sizes, .ref h_p1_words, .ref h_p1_names])), (h_p1_order, .inl (cI, 32, .inl v_p1_order)), (h_p1_sizes, .inl (cI, 32, .inl v_p1_sizes)), (h_p1_words, .inl (cI, 256, .inl v_p1_words))] [.int l7_3] [] (k_X9_sizeOf l D cI cJ cZ cO z h_p1 h_p1_order h_p1_sizes h_p1_durations h_p1_pauses h_p1_words h_p1_names l7_3 v_p1_segmentCount v_p1_wordCount v_p1_order v_p1_sizes r_4 hc_) gX8_mostTypical_X9_sizeOf rfl ⟨rfl, rfl⟩ hy_X9_sizeOf ⟨Nat.le_of_ble_eq_true rfl, Nat.le_of_ble_eq_true rfl⟩ rfl rfl rfl (q0 := 0) rfl rfl rfl (Nat.le_of_ble_eq_true rfl) rfl dX8_mostTypical_22 rfl rfl ?_
        refine gq_istore hC [(9, .int r_4), (8, .int (0 : Int32)), (0, .ref h_t_), (1, .ref h_p1), (2, .int x2), (4, .int x4), (5, .int l5_1), (6, .int l6_2), (7, .int l7_3)] dX8_mostTypical_25 (by decide) rfl ?_
        refine gq_iconst hC (0 : Int32) dX8_mostTypical_27 (by decide) ?_
        refine gq_istore hC [(10, .int (0 : Int32)), (9, .int r_4), (8, .int (0 : Int32)), (0, .ref h_t_), (1, .ref h_p1), (2, .int x2), (4, .int x4), (5, .int l5_1), (6, .int l6_2), (7, .int l7_3)] dX8_mostTypical_28 (by decide) rfl ?_
        have lp30 : ∀ (l5_5 : Int32) (l6_6 : Int32) (l7_7 : Int32) (l9_9 : Int32), ∀ (e_14 : Int32), Gx p l e (rmD 1) s m args below meth c D A 11 Q 0 0 61 [(0, .ref h_t_), (1, .ref h_p1), (2, .int x2), (4, .int x4), (5, .int l5_5), (6, .int l6_6), (7, .int l7_7), (8, .int e_14)] [] [(h_t_, .inr (8, [.ref h_spread, .ref h_counts])), (h_spread, .inl (cI, 24, .inl v_spread)), (h_counts, .inl (cI, 768, .inl v_counts)), (h_p1, .inr (9, [.int v_p1_segmentCount, .int v_p1_wordCount, .ref h_p1_order, .ref h_p1_durations, .ref h_p1_pauses, .ref h_p1_sizes, .ref h_p1_words, .ref h_p1_names])), (h_p1_order, .inl (cI, 32, .inl v_p1_order)), (h_p1_sizes, .inl (cI, 32, .inl v_p1_sizes)), (h_p1_words, .inl (cI, 256, .inl v_p1_words))] → ∀ (N : Nat) (l8_8 : Int32) (l10_10 : Int32), wh (fun k q => S_X8_mostTypical_30 x2 x4 l5_5 l6_6 l7_7 l9_9 v_spread v_counts v_p1_order v_p1_sizes v_p1_words k q.1 q.2) N (l8_8, l10_10) = some e_14 → Gx p l e (rmD 1) s m args below meth c D A 11 Q 0 0 30 [(0, .ref h_t_), (1, .ref h_p1), (2, .int x2), (4, .int x4), (5, .int l5_5), (6, .int l6_6), (7, .int l7_7), (8, .int l8_8), (9, .int l9_9), (10, .int l10_10)] [] [(h_t_, .inr (8, [.ref h_spread, .ref h_counts])), (h_spread, .inl (cI, 24, .inl v_spread)), (h_counts, .inl (cI, 768, .inl v_counts)), (h_p1, .inr (9, [.int v_p1_segmentCount, .int v_p1_wordCount, .ref h_p1_order, .ref h_p1_durations, .ref h_p1_pauses, .ref h_p1_sizes, .ref h_p1_words, .ref h_p1_names])), (h_p1_order, .inl (cI, 32, .inl v_p1_order)), (h_p1_sizes, .inl (cI, 32, .inl v_p1_sizes)), (h_p1_words, .inl (cI, 256, .inl v_p1_words))] := by
          intro l5_5 l6_6 l7_7 l9_9 e_14 hx0 N
          induction N with
          | zero => intro l8_8 l10_10 hw; exact absurd hw (wh_0 _ _ _)
          | succ N ih =>
            intro l8_8 l10_10 hw
            have hF : S_X8_mostTypical_30 x2 x4 l5_5 l6_6 l7_7 l9_9 v_spread v_counts v_p1_order v_p1_sizes v_p1_words (wh (fun k q => S_X8_mostTypical_30 x2 x4 l5_5 l6_6 l7_7 l9_9 v_spread v_counts v_p1_order v_p1_sizes v_p1_words k q.1 q.2) N) l8_8 l10_10 = some e_14 := hw
            unfold S_X8_mostTypical_30 at hF
            refine gq_iload hC 9 dX8_mostTypical_30 rfl ?_
            refine gq_iload hC 8 dX8_mostTypical_32 rfl ?_
            refine gq_icmp_ge hC 61 dX8_mostTypical_34 (by decide) (fun hc_13 => ?_) (fun hc_13 => ?_)
            · have hF := (if_pos hc_13).symm.trans hF
              refine gq_sub [(0, .ref h_t_), (1, .ref h_p1), (2, .int x2), (4, .int x4), (5, .int l5_5), (6, .int l6_6), (7, .int l7_7), (8, .int l8_8)] [0, 1, 2, 3, 4, 5, 6, 7] rfl ?_
              cases hF
              exact hx0
            · have hF := (if_neg hc_13).symm.trans hF
              refine gq_iload hC 7 dX8_mostTypical_37 rfl ?_
              refine gq_aload_n hC 0 dX8_mostTypical_39 rfl rfl ?_
              refine gq_iload_n hC 2 dX8_mostTypical_40 rfl rfl ?_
              refine gq_aload_n hC 1 dX8_mostTypical_41 rfl rfl ?_
              refine gq_iload hC 6 dX8_mostTypical_42 rfl ?_
              refine gq_iload hC 9 dX8_mostTypical_44 rfl ?_
              obtain ⟨r_11, hc_, hF⟩ := ob1_e hF
              refine gq_callVi hC [3, 4, 6] [(h_t_, .inr (8, [.ref h_spread, .ref h_counts])), (h_spread, .inl (cI, 24, .inl v_spread)), (h_counts, .inl (cI, 768, .inl v_counts)), (h_p1, .inr (9, [.int v_p1_segmentCount, .int v_p1_wordCount, .ref h_p1_order, .ref h_p1_durations, .ref h_p1_pauses, .ref h_p1_sizes, .ref h_p1_words, .ref h_p1_names])), (h_p1_order, .inl (cI, 32, .inl v_p1_order)), (h_p1_sizes, .inl (cI, 32, .inl v_p1_sizes)), (h_p1_words, .inl (cI, 256, .inl v_p1_words))] [.int l7_7, .int l10_10] [.int x2, .ref h_t_, .int l8_8] (k_X9_wordAt l D cI cJ cZ cO z h_p1 h_p1_order h_p1_words h_p1_durations h_p1_pauses h_p1_sizes h_p1_names l7_7 l10_10 v_p1_segmentCount v_p1_wordCount v_p1_order v_p1_words r_11 hc_) gX8_mostTypical_X9_wordAt rfl ⟨rfl, rfl⟩ hy_X9_wordAt ⟨Nat.le_of_ble_eq_true rfl, Nat.le_of_ble_eq_true rfl⟩ rfl rfl rfl (q0 := 0) rfl rfl rfl (Nat.le_of_ble_eq_true rfl) rfl dX8_mostTypical_46 rfl rfl ?_
              obtain ⟨r_12, hc_, hF⟩ := ob1_e hF
              refine gq_callVi hC [0, 1, 2] [(h_t_, .inr (8, [.ref h_spread, .ref h_counts])), (h_spread, .inl (cI, 24, .inl v_spread)), (h_counts, .inl (cI, 768, .inl v_counts)), (h_p1, .inr (9, [.int v_p1_segmentCount, .int v_p1_wordCount, .ref h_p1_order, .ref h_p1_durations, .ref h_p1_pauses, .ref h_p1_sizes, .ref h_p1_words, .ref h_p1_names])), (h_p1_order, .inl (cI, 32, .inl v_p1_order)), (h_p1_sizes, .inl (cI, 32, .inl v_p1_sizes)), (h_p1_words, .inl (cI, 256, .inl v_p1_words))] [.int x2, .int r_11] [.int l8_8] (k_X8_markOf l D cI cJ cZ cO z h_t_ h_spread h_counts x2 r_11 v_spread v_counts r_12 hc_) gX8_mostTypical_X8_markOf rfl ⟨rfl, rfl⟩ hy_X8_markOf ⟨Nat.le_of_ble_eq_true rfl, Nat.le_of_ble_eq_true rfl⟩ rfl rfl rfl (q0 := 0) rfl rfl rfl (Nat.le_of_ble_eq_true rfl) rfl dX8_mostTypical_49 rfl rfl ?_
              refine gq_iadd hC dX8_mostTypical_52 ?_
              refine gq_istore hC [(8, .int (l8_8 + r_12)), (0, .ref h_t_), (1, .ref h_p1), (2, .int x2), (4, .int x4), (5, .int l5_5), (6, .int l6_6), (7, .int l7_7), (9, .int l9_9), (10, .int l10_10)] dX8_mostTypical_53 (by decide) rfl ?_
              refine gq_iinc hC 9 (l10_10 + (1 : Int32)) [(10, .int (l10_10 + (1 : Int32))), (8, .int (l8_8 + r_12)), (0, .ref h_t_), (1, .ref h_p1), (2, .int x2), (4, .int x4), (5, .int l5_5), (6, .int l6_6), (7, .int l7_7), (9, .int l9_9)] dX8_mostTypical_55 rfl rfl (by decide) rfl ?_
              refine gq_goto hC 30 dX8_mostTypical_58 (by decide) ?_
              refine gq_sub [(0, .ref h_t_), (1, .ref h_p1), (2, .int x2), (4, .int x4), (5, .int l5_5), (6, .int l6_6), (7, .int l7_7), (8, .int (l8_8 + r_12)), (9, .int l9_9), (10, .int (l10_10 + (1 : Int32)))] [2, 3, 4, 5, 6, 7, 8, 1, 9, 0] rfl ?_
              exact ih (l8_8 + r_12) (l10_10 + (1 : Int32)) hF
        refine gq_sub [(0, .ref h_t_), (1, .ref h_p1), (2, .int x2), (4, .int x4), (5, .int l5_1), (6, .int l6_2), (7, .int l7_3), (8, .int (0 : Int32)), (9, .int r_4), (10, .int (0 : Int32))] [3, 4, 5, 6, 7, 8, 9, 2, 1, 0] rfl ?_
        obtain ⟨e_15, hw_, hF⟩ := ob1_e hF
        refine lp30 l5_1 l6_2 l7_3 r_4 e_15 ?_ wF (0 : Int32) (0 : Int32) hw_
        refine gq_iload hC 7 dX8_mostTypical_61 rfl ?_
        refine gq_iload hC 5 dX8_mostTypical_63 rfl ?_
        refine gq_icmp_le hC 76 dX8_mostTypical_65 (by decide) (fun hc_16 => ?_) (fun hc_16 => ?_)
        · have hF := (if_pos hc_16).symm.trans hF
          refine gq_iinc hC 6 (l7_3 + (1 : Int32)) [(7, .int (l7_3 + (1 : Int32))), (0, .ref h_t_), (1, .ref h_p1), (2, .int x2), (4, .int x4), (5, .int l5_1), (6, .int l6_2), (8, .int e_15)] dX8_mostTypical_76 rfl rfl (by decide) rfl ?_
          refine gq_goto hC 9 dX8_mostTypical_79 (by decide) ?_
          refine gq_sub [(0, .ref h_t_), (1, .ref h_p1), (2, .int x2), (4, .int x4), (5, .int l5_1), (6, .int l6_2), (7, .int (l7_3 + (1 : Int32)))] [1, 2, 3, 4, 5, 6, 0] rfl ?_
          exact ih l5_1 l6_2 (l7_3 + (1 : Int32)) hF
        · have hF := (if_neg hc_16).symm.trans hF
          refine gq_iload hC 6 dX8_mostTypical_68 rfl ?_
          refine gq_istore hC [(5, .int l7_3), (0, .ref h_t_), (1, .ref h_p1), (2, .int x2), (4, .int x4), (6, .int l6_2), (7, .int l7_3), (8, .int e_15)] dX8_mostTypical_70 (by decide) rfl ?_
          refine gq_iload hC 7 dX8_mostTypical_72 rfl ?_
          refine gq_istore hC [(6, .int e_15), (5, .int l7_3), (0, .ref h_t_), (1, .ref h_p1), (2, .int x2), (4, .int x4), (7, .int l7_3), (8, .int e_15)] dX8_mostTypical_74 (by decide) rfl ?_
          refine gq_iinc hC 6 (l7_3 + (1 : Int32)) [(7, .int (l7_3 + (1 : Int32))), (6, .int e_15), (5, .int l7_3), (0, .ref h_t_), (1, .ref h_p1), (2, .int x2), (4, .int x4), (8, .int e_15)] dX8_mostTypical_76 rfl rfl (by decide) rfl ?_
          refine gq_goto hC 9 dX8_mostTypical_79 (by decide) ?_
          refine gq_sub [(0, .ref h_t_), (1, .ref h_p1), (2, .int x2), (4, .int x4), (5, .int l7_3), (6, .int e_15), (7, .int (l7_3 + (1 : Int32)))] [3, 4, 5, 6, 2, 1, 0] rfl ?_
          exact ih l7_3 e_15 (l7_3 + (1 : Int32)) hF
  refine gq_sub [(0, .ref h_t_), (1, .ref h_p1), (2, .int x2), (4, .int x4), (5, .int x3), (6, .int (-1 : Int32)), (7, .int x3)] [3, 4, 5, 7, 2, 1, 0] rfl ?_
  obtain ⟨e_19, hw_, hF⟩ := ob1_e hF
  refine lp9  e_19 ?_ wF x3 (-1 : Int32) x3 hw_
  refine gq_iload hC 0 dX8_mostTypical_82 rfl ?_
  cases hF
  rw [hQ]
  exact gq_iret hC rfl dX8_mostTypical_84
set_option maxRecDepth 20000 in
set_option maxHeartbeats 4000000 in
theorem k_X10_percentAlike_p2p0 (l : Launch) (D : va_G) (cI cJ cZ cO : ClassId) (z : Nat → Nat) (n0 : Nat) (n2 : Nat)  (h_p0 : Nat) (x1 : Int32) (x3 : Int32) (v_p0 : Nat → Int32) (r_ : Int32) (hF : F_X10_percentAlike_p2p0 n0 n2 x1 x3 v_p0 = some r_) : Mi l yX10_percentAlike wsX10_percentAlike (rmD 1) D (gq_ty cI cJ cZ cO) z [.ref h_p0, .int x1, .ref h_p0, .int x3] [(h_p0, .inl (cI, n0, .inl v_p0))] r_ [(h_p0, .inl (cI, n0, .inl v_p0))] 0 0 := by
  refine Mi.of (cc := cX10_percentAlike) (maxL := 9) (by decide) rfl (Nat.le_of_ble_eq_true rfl) ⟨Nat.le_refl 0, Nat.le_refl 0⟩ ?_
  intro p e s m args below meth c A hC ha
  obtain ⟨Q, hQ⟩ : ∃ Q, Q = gq_Qi below D A args s r_ [(h_p0, .inl (cI, n0, .inl v_p0))] 0 0 := ⟨_, rfl⟩
  rw [← hQ]
  refine gq_loc [(0, .ref h_p0), (1, .int x1), (2, .ref h_p0), (3, .int x3)] rfl ?_
  unfold F_X10_percentAlike_p2p0 at hF
  refine gq_iconst hC (0 : Int32) dX10_percentAlike_0 (by decide) ?_
  refine gq_istore hC [(4, .int (0 : Int32)), (0, .ref h_p0), (1, .int x1), (2, .ref h_p0), (3, .int x3)] dX10_percentAlike_1 (by decide) rfl ?_
  refine gq_iconst hC (0 : Int32) dX10_percentAlike_3 (by decide) ?_
  refine gq_istore hC [(5, .int (0 : Int32)), (4, .int (0 : Int32)), (0, .ref h_p0), (1, .int x1), (2, .ref h_p0), (3, .int x3)] dX10_percentAlike_4 (by decide) rfl ?_
  refine gq_iconst hC (0 : Int32) dX10_percentAlike_6 (by decide) ?_
  refine gq_istore hC [(6, .int (0 : Int32)), (5, .int (0 : Int32)), (4, .int (0 : Int32)), (0, .ref h_p0), (1, .int x1), (2, .ref h_p0), (3, .int x3)] dX10_percentAlike_7 (by decide) rfl ?_
  have lp9 : ∀ (e_7 : Int32) (e_8 : Int32), Gx p l e (rmD 1) s m args below meth c D A 9 Q 0 0 62 [(4, .int e_7), (5, .int e_8)] [] [(h_p0, .inl (cI, n0, .inl v_p0))] → ∀ (N : Nat) (l4_1 : Int32) (l5_2 : Int32) (l6_3 : Int32), wh (fun k q => S_X10_percentAlike_p2p0_9 n0 n2 x1 x3 v_p0 k q.1 q.2.1 q.2.2) N (l4_1, l5_2, l6_3) = some (e_7, e_8) → Gx p l e (rmD 1) s m args below meth c D A 9 Q 0 0 9 [(0, .ref h_p0), (1, .int x1), (2, .ref h_p0), (3, .int x3), (4, .int l4_1), (5, .int l5_2), (6, .int l6_3)] [] [(h_p0, .inl (cI, n0, .inl v_p0))] := by
    intro e_7 e_8 hx0 N
    induction N with
    | zero => intro l4_1 l5_2 l6_3 hw; exact absurd hw (wh_0 _ _ _)
    | succ N ih =>
      intro l4_1 l5_2 l6_3 hw
      have hF : S_X10_percentAlike_p2p0_9 n0 n2 x1 x3 v_p0 (wh (fun k q => S_X10_percentAlike_p2p0_9 n0 n2 x1 x3 v_p0 k q.1 q.2.1 q.2.2) N) l4_1 l5_2 l6_3 = some (e_7, e_8) := hw
      unfold S_X10_percentAlike_p2p0_9 at hF
      refine gq_iload hC 6 dX10_percentAlike_9 rfl ?_
      refine gq_bipush hC (24 : Int32) dX10_percentAlike_11 (by decide) ?_
      refine gq_icmp_ge hC 62 dX10_percentAlike_13 (by decide) (fun hc_6 => ?_) (fun hc_6 => ?_)
      · have hF := (if_pos hc_6).symm.trans hF
        refine gq_sub [(4, .int l4_1), (5, .int l5_2)] [4, 5] rfl ?_
        cases hF
        exact hx0
      · have hF := (if_neg hc_6).symm.trans hF
        refine gq_aload_n hC 0 dX10_percentAlike_16 rfl rfl ?_
        refine gq_iload_n hC 1 dX10_percentAlike_17 rfl rfl ?_
        refine gq_iload hC 6 dX10_percentAlike_18 rfl ?_
        refine gq_iadd hC dX10_percentAlike_20 ?_
        obtain ⟨hi_4, hF⟩ := gi_e hF
        refine gq_iald hC 0 0 rfl rfl hi_4 dX10_percentAlike_21 ?_
        refine gq_istore hC [(7, .int (v_p0 (x1 + l6_3).toNatClampNeg)), (0, .ref h_p0), (1, .int x1), (2, .ref h_p0), (3, .int x3), (4, .int l4_1), (5, .int l5_2), (6, .int l6_3)] dX10_percentAlike_22 (by decide) rfl ?_
        refine gq_aload_n hC 3 dX10_percentAlike_24 rfl rfl ?_
        refine gq_iload_n hC 4 dX10_percentAlike_25 rfl rfl ?_
        refine gq_iload hC 7 dX10_percentAlike_26 rfl ?_
        refine gq_iadd hC dX10_percentAlike_28 ?_
        obtain ⟨hi_5, hF⟩ := gi_e hF
        refine gq_iald hC 0 0 rfl rfl hi_5 dX10_percentAlike_29 ?_
        refine gq_istore hC [(8, .int (v_p0 (x3 + l6_3).toNatClampNeg)), (7, .int (v_p0 (x1 + l6_3).toNatClampNeg)), (0, .ref h_p0), (1, .int x1), (2, .ref h_p0), (3, .int x3), (4, .int l4_1), (5, .int l5_2), (6, .int l6_3)] dX10_percentAlike_30 (by decide) rfl ?_
        refine gq_iload hC 6 dX10_percentAlike_32 rfl ?_
        refine gq_iload hC 1 dX10_percentAlike_34 rfl ?_
        refine gq_iload hC 0 dX10_percentAlike_36 rfl ?_
        refine gq_mmin hC ⟨by decide +kernel, by decide +kernel, by decide +kernel, by decide +kernel⟩ ⟨Nat.le_of_ble_eq_true rfl, Nat.le_of_ble_eq_true rfl⟩ dX10_percentAlike_38 ?_
        refine gq_iadd hC dX10_percentAlike_41 ?_
        refine gq_istore hC [(4, .int (l4_1 + (if (v_p0 (x3 + l6_3).toNatClampNeg) < (v_p0 (x1 + l6_3).toNatClampNeg) then (v_p0 (x3 + l6_3).toNatClampNeg) else (v_p0 (x1 + l6_3).toNatClampNeg)))), (8, .int (v_p0 (x3 + l6_3).toNatClampNeg)), (7, .int (v_p0 (x1 + l6_3).toNatClampNeg)), (0, .ref h_p0), (1, .int x1), (2, .ref h_p0), (3, .int x3), (5, .int l5_2), (6, .int l6_3)] dX10_percentAlike_42 (by decide) rfl ?_
        refine gq_iload hC 7 dX10_percentAlike_44 rfl ?_
        refine gq_iload hC 2 dX10_percentAlike_46 rfl ?_
        refine gq_iload hC 1 dX10_percentAlike_48 rfl ?_
        refine gq_mmax hC ⟨by decide +kernel, by decide +kernel, by decide +kernel, by decide +kernel⟩ ⟨Nat.le_of_ble_eq_true rfl, Nat.le_of_ble_eq_true rfl⟩ dX10_percentAlike_50 ?_
        refine gq_iadd hC dX10_percentAlike_53 ?_
        refine gq_istore hC [(5, .int (l5_2 + (if (v_p0 (x1 + l6_3).toNatClampNeg) < (v_p0 (x3 + l6_3).toNatClampNeg) then (v_p0 (x3 + l6_3).toNatClampNeg) else (v_p0 (x1 + l6_3).toNatClampNeg)))), (4, .int (l4_1 + (if (v_p0 (x3 + l6_3).toNatClampNeg) < (v_p0 (x1 + l6_3).toNatClampNeg) then (v_p0 (x3 + l6_3).toNatClampNeg) else (v_p0 (x1 + l6_3).toNatClampNeg)))), (8, .int (v_p0 (x3 + l6_3).toNatClampNeg)), (7, .int (v_p0 (x1 + l6_3).toNatClampNeg)), (0, .ref h_p0), (1, .int x1), (2, .ref h_p0), (3, .int x3), (6, .int l6_3)] dX10_percentAlike_54 (by decide) rfl ?_
        refine gq_iinc hC 8 (l6_3 + (1 : Int32)) [(6, .int (l6_3 + (1 : Int32))), (5, .int (l5_2 + (if (v_p0 (x1 + l6_3).toNatClampNeg) < (v_p0 (x3 + l6_3).toNatClampNeg) then (v_p0 (x3 + l6_3).toNatClampNeg) else (v_p0 (x1 + l6_3).toNatClampNeg)))), (4, .int (l4_1 + (if (v_p0 (x3 + l6_3).toNatClampNeg) < (v_p0 (x1 + l6_3).toNatClampNeg) then (v_p0 (x3 + l6_3).toNatClampNeg) else (v_p0 (x1 + l6_3).toNatClampNeg)))), (8, .int (v_p0 (x3 + l6_3).toNatClampNeg)), (7, .int (v_p0 (x1 + l6_3).toNatClampNeg)), (0, .ref h_p0), (1, .int x1), (2, .ref h_p0), (3, .int x3)] dX10_percentAlike_56 rfl rfl (by decide) rfl ?_
        refine gq_goto hC 9 dX10_percentAlike_59 (by decide) ?_
        refine gq_sub [(0, .ref h_p0), (1, .int x1), (2, .ref h_p0), (3, .int x3), (4, .int (l4_1 + (if (v_p0 (x3 + l6_3).toNatClampNeg) < (v_p0 (x1 + l6_3).toNatClampNeg) then (v_p0 (x3 + l6_3).toNatClampNeg) else (v_p0 (x1 + l6_3).toNatClampNeg)))), (5, .int (l5_2 + (if (v_p0 (x1 + l6_3).toNatClampNeg) < (v_p0 (x3 + l6_3).toNatClampNeg) then (v_p0 (x3 + l6_3).toNatClampNeg) else (v_p0 (x1 + l6_3).toNatClampNeg)))), (6, .int (l6_3 + (1 : Int32)))] [5, 6, 7, 8, 2, 1, 0] rfl ?_
        exact ih (l4_1 + (if (v_p0 (x3 + l6_3).toNatClampNeg) < (v_p0 (x1 + l6_3).toNatClampNeg) then (v_p0 (x3 + l6_3).toNatClampNeg) else (v_p0 (x1 + l6_3).toNatClampNeg))) (l5_2 + (if (v_p0 (x1 + l6_3).toNatClampNeg) < (v_p0 (x3 + l6_3).toNatClampNeg) then (v_p0 (x3 + l6_3).toNatClampNeg) else (v_p0 (x1 + l6_3).toNatClampNeg))) (l6_3 + (1 : Int32)) hF
  refine gq_sub [(0, .ref h_p0), (1, .int x1), (2, .ref h_p0), (3, .int x3), (4, .int (0 : Int32)), (5, .int (0 : Int32)), (6, .int (0 : Int32))] [3, 4, 5, 6, 2, 1, 0] rfl ?_
  obtain ⟨e_9, e_10, hw_, hF⟩ := ob2_e hF
  refine lp9  e_9 e_10 ?_ wF (0 : Int32) (0 : Int32) (0 : Int32) hw_
  refine gq_iload hC 1 dX10_percentAlike_62 rfl ?_
  refine gq_if_ne hC 71 dX10_percentAlike_64 (by decide) (fun hc_12 => ?_) (fun hc_12 => ?_)
  · have hF := (if_neg hc_12).symm.trans hF
    refine gq_bipush hC (100 : Int32) dX10_percentAlike_71 (by decide) ?_
    refine gq_iload hC 0 dX10_percentAlike_73 rfl ?_
    refine gq_imul hC dX10_percentAlike_75 ?_
    refine gq_iload hC 1 dX10_percentAlike_76 rfl ?_
    obtain ⟨hz_11, hF⟩ := gzi_e hF
    refine gq_idiv hC dX10_percentAlike_78 hz_11 ?_
    cases hF
    rw [hQ]
    exact gq_iret hC rfl dX10_percentAlike_79
  · have hF := (if_pos hc_12).symm.trans hF
    refine gq_iconst hC (0 : Int32) dX10_percentAlike_67 (by decide) ?_
    refine gq_goto hC 79 dX10_percentAlike_68 (by decide) ?_
    cases hF
    rw [hQ]
    exact gq_iret hC rfl dX10_percentAlike_79
theorem hy_X8_chapterLikeness : yX8_chapterLikeness.cls = RX8 ∧ yX8_chapterLikeness.cls ≠ "java/lang/invoke/MethodHandle" ∧ yX8_chapterLikeness.cls ≠ "java/lang/invoke/VarHandle" ∧ (parseMethodDescriptor yX8_chapterLikeness.desc).map (fun d => d.parameters.length) = some 2 := by decide +kernel
set_option maxRecDepth 20000 in
set_option maxHeartbeats 4000000 in
theorem k_X8_chapterLikeness (l : Launch) (D : va_G) (cI cJ cZ cO : ClassId) (z : Nat → Nat)   (h_t_ : Nat) (h_counts : Nat) (h_spread : Nat) (x1 : Int32) (x2 : Int32) (v_counts : Nat → Int32) (r_ : Int32) (hF : F_X8_chapterLikeness x1 x2 v_counts = some r_) : Mi l yX8_chapterLikeness wsX8_chapterLikeness (rmD 2) D (gq_ty cI cJ cZ cO) z [.ref h_t_, .int x1, .int x2] [(h_t_, .inr (8, [.ref h_spread, .ref h_counts])), (h_counts, .inl (cI, 768, .inl v_counts))] r_ [(h_t_, .inr (8, [.ref h_spread, .ref h_counts])), (h_counts, .inl (cI, 768, .inl v_counts))] 0 0 := by
  refine Mi.of (cc := cX8_chapterLikeness) (maxL := 3) (by decide) rfl (Nat.le_of_ble_eq_true rfl) ⟨Nat.le_refl 0, Nat.le_refl 0⟩ ?_
  intro p e s m args below meth c A hC ha
  have hin_X8 : ∀ w ∈ wsX80, w ∈ wsX8_chapterLikeness := by decide +kernel
  have hw_15 : Cond.fieldLink RX8 15 (TX8 1).1 (TX8 1).2.1 (TX8 1).2.2.1 ∈ wsX8_chapterLikeness := by decide +kernel
  obtain ⟨Q, hQ⟩ : ∃ Q, Q = gq_Qi below D A args s r_ [(h_t_, .inr (8, [.ref h_spread, .ref h_counts])), (h_counts, .inl (cI, 768, .inl v_counts))] 0 0 := ⟨_, rfl⟩
  rw [← hQ]
  refine gq_loc [(0, .ref h_t_), (1, .int x1), (2, .int x2)] rfl ?_
  unfold F_X8_chapterLikeness at hF
  refine gq_aload_n hC 0 dX8_chapterLikeness_0 rfl rfl ?_
  refine gq_get hC (kf := 1) 0 hin_X8 rfl rfl (by decide) hw_15 rfl dX8_chapterLikeness_1 ?_
  refine gq_iload_n hC 1 dX8_chapterLikeness_4 rfl rfl ?_
  refine gq_bipush hC (24 : Int32) dX8_chapterLikeness_5 (by decide) ?_
  refine gq_imul hC dX8_chapterLikeness_7 ?_
  refine gq_aload_n hC 0 dX8_chapterLikeness_8 rfl rfl ?_
  refine gq_get hC (kf := 1) 0 hin_X8 rfl rfl (by decide) hw_15 rfl dX8_chapterLikeness_9 ?_
  refine gq_iload_n hC 2 dX8_chapterLikeness_12 rfl rfl ?_
  refine gq_bipush hC (24 : Int32) dX8_chapterLikeness_13 (by decide) ?_
  refine gq_imul hC dX8_chapterLikeness_15 ?_
  obtain ⟨r_1, hc_, hF⟩ := ob1_e hF
  refine gq_callNi hC [1] [(h_t_, .inr (8, [.ref h_spread, .ref h_counts])), (h_counts, .inl (cI, 768, .inl v_counts))] [.ref h_counts, .int (x1 * (24 : Int32)), .ref h_counts, .int (x2 * (24 : Int32))] [] (k_X10_percentAlike_p2p0 l D cI cJ cZ cO z 768 768 h_counts (x1 * (24 : Int32)) (x2 * (24 : Int32)) v_counts r_1 hc_) gX8_chapterLikeness_X10_percentAlike_n57 rfl ⟨rfl, rfl⟩ hy_X10_percentAlike (host := RX10) (hC.2.2.2.2.2.1.2.2.1) (by decide +kernel) ⟨Nat.le_of_ble_eq_true rfl, Nat.le_of_ble_eq_true rfl⟩ rfl rfl rfl (Nat.le_of_ble_eq_true rfl) rfl dX8_chapterLikeness_16 rfl rfl ?_
  cases hF
  rw [hQ]
  exact gq_iret hC rfl dX8_chapterLikeness_19
theorem hy_X8_precedes : yX8_precedes.cls = RX8 ∧ yX8_precedes.cls ≠ "java/lang/invoke/MethodHandle" ∧ yX8_precedes.cls ≠ "java/lang/invoke/VarHandle" ∧ (parseMethodDescriptor yX8_precedes.desc).map (fun d => d.parameters.length) = some 3 := by decide +kernel
set_option maxRecDepth 20000 in
set_option maxHeartbeats 4000000 in
theorem k_X8_precedes (l : Launch) (D : va_G) (cI cJ cZ cO : ClassId) (z : Nat → Nat)   (h_t_ : Nat) (h_spread : Nat) (h_counts : Nat) (x1 : Int32) (x2 : Int32) (x3 : Int32) (v_spread : Nat → Int32) (v_counts : Nat → Int32) (r_ : Int32) (hF : F_X8_precedes x1 x2 x3 v_spread v_counts = some r_) : Mi l yX8_precedes wsX8_precedes (rmD 1) D (gq_ty cI cJ cZ cO) z [.ref h_t_, .int x1, .int x2, .int x3] [(h_t_, .inr (8, [.ref h_spread, .ref h_counts])), (h_spread, .inl (cI, 24, .inl v_spread)), (h_counts, .inl (cI, 768, .inl v_counts))] r_ [(h_t_, .inr (8, [.ref h_spread, .ref h_counts])), (h_spread, .inl (cI, 24, .inl v_spread)), (h_counts, .inl (cI, 768, .inl v_counts))] 0 0 := by
  refine Mi.of (cc := cX8_precedes) (maxL := 6) (by decide) rfl (Nat.le_of_ble_eq_true rfl) ⟨Nat.le_refl 0, Nat.le_refl 0⟩ ?_
  intro p e s m args below meth c A hC ha
  obtain ⟨Q, hQ⟩ : ∃ Q, Q = gq_Qi below D A args s r_ [(h_t_, .inr (8, [.ref h_spread, .ref h_counts])), (h_spread, .inl (cI, 24, .inl v_spread)), (h_counts, .inl (cI, 768, .inl v_counts))] 0 0 := ⟨_, rfl⟩
  rw [← hQ]
  refine gq_loc [(0, .ref h_t_), (1, .int x1), (2, .int x2), (3, .int x3)] rfl ?_
  unfold F_X8_precedes at hF
  refine gq_aload_n hC 0 dX8_precedes_0 rfl rfl ?_
  refine gq_iload_n hC 1 dX8_precedes_1 rfl rfl ?_
  refine gq_iload_n hC 2 dX8_precedes_2 rfl rfl ?_
  obtain ⟨r_1, hc_, hF⟩ := ob1_e hF
  refine gq_callVi hC [0, 1, 2] [(h_t_, .inr (8, [.ref h_spread, .ref h_counts])), (h_spread, .inl (cI, 24, .inl v_spread)), (h_counts, .inl (cI, 768, .inl v_counts))] [.int x1, .int x2] [] (k_X8_markOf l D cI cJ cZ cO z h_t_ h_spread h_counts x1 x2 v_spread v_counts r_1 hc_) gX8_precedes_X8_markOf rfl ⟨rfl, rfl⟩ hy_X8_markOf ⟨Nat.le_of_ble_eq_true rfl, Nat.le_of_ble_eq_true rfl⟩ rfl rfl rfl (q0 := 0) rfl rfl rfl (Nat.le_of_ble_eq_true rfl) rfl dX8_precedes_3 rfl rfl ?_
  refine gq_istore hC [(4, .int r_1), (0, .ref h_t_), (1, .int x1), (2, .int x2), (3, .int x3)] dX8_precedes_6 (by decide) rfl ?_
  refine gq_aload_n hC 1 dX8_precedes_8 rfl rfl ?_
  refine gq_iload_n hC 2 dX8_precedes_9 rfl rfl ?_
  refine gq_iload_n hC 4 dX8_precedes_10 rfl rfl ?_
  obtain ⟨r_2, hc_, hF⟩ := ob1_e hF
  refine gq_callVi hC [0, 1, 2] [(h_t_, .inr (8, [.ref h_spread, .ref h_counts])), (h_spread, .inl (cI, 24, .inl v_spread)), (h_counts, .inl (cI, 768, .inl v_counts))] [.int x1, .int x3] [] (k_X8_markOf l D cI cJ cZ cO z h_t_ h_spread h_counts x1 x3 v_spread v_counts r_2 hc_) gX8_precedes_X8_markOf rfl ⟨rfl, rfl⟩ hy_X8_markOf ⟨Nat.le_of_ble_eq_true rfl, Nat.le_of_ble_eq_true rfl⟩ rfl rfl rfl (q0 := 0) rfl rfl rfl (Nat.le_of_ble_eq_true rfl) rfl dX8_precedes_11 rfl rfl ?_
  refine gq_istore hC [(5, .int r_2), (4, .int r_1), (0, .ref h_t_), (1, .int x1), (2, .int x2), (3, .int x3)] dX8_precedes_14 (by decide) rfl ?_
  refine gq_iload hC 1 dX8_precedes_16 rfl ?_
  refine gq_iload hC 0 dX8_precedes_18 rfl ?_
  refine gq_icmp_gt hC 35 dX8_precedes_20 (by decide) (fun hc_5 => ?_) (fun hc_5 => ?_)
  · have hF := (if_pos hc_5).symm.trans hF
    refine gq_iconst hC (1 : Int32) dX8_precedes_35 (by decide) ?_
    refine gq_goto hC 40 dX8_precedes_36 (by decide) ?_
    cases hF
    rw [hQ]
    exact gq_iret hC rfl dX8_precedes_40
  · have hF := (if_neg hc_5).symm.trans hF
    refine gq_iload hC 1 dX8_precedes_23 rfl ?_
    refine gq_iload hC 0 dX8_precedes_25 rfl ?_
    refine gq_icmp_ne hC 39 dX8_precedes_27 (by decide) (fun hc_4 => ?_) (fun hc_4 => ?_)
    · have hF := (if_neg hc_4).symm.trans hF
      refine gq_iconst hC (0 : Int32) dX8_precedes_39 (by decide) ?_
      cases hF
      rw [hQ]
      exact gq_iret hC rfl dX8_precedes_40
    · have hF := (if_pos hc_4).symm.trans hF
      refine gq_iload_n hC 4 dX8_precedes_30 rfl rfl ?_
      refine gq_iload_n hC 5 dX8_precedes_31 rfl rfl ?_
      refine gq_icmp_ge hC 39 dX8_precedes_32 (by decide) (fun hc_3 => ?_) (fun hc_3 => ?_)
      · have hF := (if_pos hc_3).symm.trans hF
        refine gq_iconst hC (0 : Int32) dX8_precedes_39 (by decide) ?_
        cases hF
        rw [hQ]
        exact gq_iret hC rfl dX8_precedes_40
      · have hF := (if_neg hc_3).symm.trans hF
        refine gq_iconst hC (1 : Int32) dX8_precedes_35 (by decide) ?_
        refine gq_goto hC 40 dX8_precedes_36 (by decide) ?_
        cases hF
        rw [hQ]
        exact gq_iret hC rfl dX8_precedes_40
theorem hy_X8_nextInTitle : yX8_nextInTitle.cls = RX8 ∧ yX8_nextInTitle.cls ≠ "java/lang/invoke/MethodHandle" ∧ yX8_nextInTitle.cls ≠ "java/lang/invoke/VarHandle" ∧ (parseMethodDescriptor yX8_nextInTitle.desc).map (fun d => d.parameters.length) = some 2 := by decide +kernel
set_option maxRecDepth 20000 in
set_option maxHeartbeats 4000000 in
theorem k_X8_nextInTitle (l : Launch) (D : va_G) (cI cJ cZ cO : ClassId) (z : Nat → Nat)   (h_t_ : Nat) (h_spread : Nat) (h_counts : Nat) (x1 : Int32) (x2 : Int32) (v_spread : Nat → Int32) (v_counts : Nat → Int32) (r_ : Int32) (hF : F_X8_nextInTitle x1 x2 v_spread v_counts = some r_) : Mi l yX8_nextInTitle wsX8_nextInTitle (rmD 2) D (gq_ty cI cJ cZ cO) z [.ref h_t_, .int x1, .int x2] [(h_t_, .inr (8, [.ref h_spread, .ref h_counts])), (h_spread, .inl (cI, 24, .inl v_spread)), (h_counts, .inl (cI, 768, .inl v_counts))] r_ [(h_t_, .inr (8, [.ref h_spread, .ref h_counts])), (h_spread, .inl (cI, 24, .inl v_spread)), (h_counts, .inl (cI, 768, .inl v_counts))] 0 0 := by
  refine Mi.of (cc := cX8_nextInTitle) (maxL := 6) (by decide) rfl (Nat.le_of_ble_eq_true rfl) ⟨Nat.le_refl 0, Nat.le_refl 0⟩ ?_
  intro p e s m args below meth c A hC ha
  obtain ⟨Q, hQ⟩ : ∃ Q, Q = gq_Qi below D A args s r_ [(h_t_, .inr (8, [.ref h_spread, .ref h_counts])), (h_spread, .inl (cI, 24, .inl v_spread)), (h_counts, .inl (cI, 768, .inl v_counts))] 0 0 := ⟨_, rfl⟩
  rw [← hQ]
  refine gq_loc [(0, .ref h_t_), (1, .int x1), (2, .int x2)] rfl ?_
  unfold F_X8_nextInTitle at hF
  refine gq_iconst hC (-1 : Int32) dX8_nextInTitle_0 (by decide) ?_
  refine gq_istore_n hC [(3, .int (-1 : Int32)), (0, .ref h_t_), (1, .int x1), (2, .int x2)] dX8_nextInTitle_1 rfl (by decide) rfl ?_
  refine gq_iconst hC (0 : Int32) dX8_nextInTitle_2 (by decide) ?_
  refine gq_istore hC [(4, .int (0 : Int32)), (3, .int (-1 : Int32)), (0, .ref h_t_), (1, .int x1), (2, .int x2)] dX8_nextInTitle_3 (by decide) rfl ?_
  have lp5 : ∀ (e_20 : Int32), Gx p l e (rmD 2) s m args below meth c D A 6 Q 0 0 75 [(3, .int e_20)] [] [(h_t_, .inr (8, [.ref h_spread, .ref h_counts])), (h_spread, .inl (cI, 24, .inl v_spread)), (h_counts, .inl (cI, 768, .inl v_counts))] → ∀ (N : Nat) (l3_1 : Int32) (l4_2 : Int32), wh (fun k q => S_X8_nextInTitle_5 x1 x2 v_spread v_counts k q.1 q.2) N (l3_1, l4_2) = some e_20 → Gx p l e (rmD 2) s m args below meth c D A 6 Q 0 0 5 [(0, .ref h_t_), (1, .int x1), (2, .int x2), (3, .int l3_1), (4, .int l4_2)] [] [(h_t_, .inr (8, [.ref h_spread, .ref h_counts])), (h_spread, .inl (cI, 24, .inl v_spread)), (h_counts, .inl (cI, 768, .inl v_counts))] := by
    intro e_20 hx0 N
    induction N with
    | zero => intro l3_1 l4_2 hw; exact absurd hw (wh_0 _ _ _)
    | succ N ih =>
      have jb43 : ∀ (l3_3 : Int32) (l4_4 : Int32) (st_5 : Int32), F_X8_nextInTitle_b43 (wh (fun k q => S_X8_nextInTitle_5 x1 x2 v_spread v_counts k q.1 q.2) N) x1 x2 l3_3 l4_4 st_5 v_spread v_counts = some e_20 → Gx p l e (rmD 2) s m args below meth c D A 6 Q 0 0 43 [(0, .ref h_t_), (1, .int x1), (2, .int x2), (3, .int l3_3), (4, .int l4_4)] [.int st_5] [(h_t_, .inr (8, [.ref h_spread, .ref h_counts])), (h_spread, .inl (cI, 24, .inl v_spread)), (h_counts, .inl (cI, 768, .inl v_counts))] := by
        intro l3_3 l4_4 st_5 hF
        unfold F_X8_nextInTitle_b43 at hF
        refine gq_istore hC [(5, .int st_5), (0, .ref h_t_), (1, .int x1), (2, .int x2), (3, .int l3_3), (4, .int l4_4)] dX8_nextInTitle_43 (by decide) rfl ?_
        refine gq_iload hC 0 dX8_nextInTitle_45 rfl ?_
        refine gq_if_eq hC 69 dX8_nextInTitle_47 (by decide) (fun hc_9 => ?_) (fun hc_9 => ?_)
        · have hF := (if_pos hc_9).symm.trans hF
          refine gq_iinc hC 5 (l4_4 + (1 : Int32)) [(4, .int (l4_4 + (1 : Int32))), (5, .int st_5), (0, .ref h_t_), (1, .int x1), (2, .int x2), (3, .int l3_3)] dX8_nextInTitle_69 rfl rfl (by decide) rfl ?_
          refine gq_goto hC 5 dX8_nextInTitle_72 (by decide) ?_
          refine gq_sub [(0, .ref h_t_), (1, .int x1), (2, .int x2), (3, .int l3_3), (4, .int (l4_4 + (1 : Int32)))] [2, 3, 4, 5, 0] rfl ?_
          exact ih l3_3 (l4_4 + (1 : Int32)) hF
        · have hF := (if_neg hc_9).symm.trans hF
          refine gq_iload_n hC 4 dX8_nextInTitle_50 rfl rfl ?_
          refine gq_iconst hC (-1 : Int32) dX8_nextInTitle_51 (by decide) ?_
          refine gq_icmp_eq hC 66 dX8_nextInTitle_52 (by decide) (fun hc_8 => ?_) (fun hc_8 => ?_)
          · have hF := (if_pos hc_8).symm.trans hF
            refine gq_iload hC 5 dX8_nextInTitle_66 rfl ?_
            refine gq_istore_n hC [(3, .int l4_4), (5, .int st_5), (0, .ref h_t_), (1, .int x1), (2, .int x2), (4, .int l4_4)] dX8_nextInTitle_68 rfl (by decide) rfl ?_
            refine gq_iinc hC 5 (l4_4 + (1 : Int32)) [(4, .int (l4_4 + (1 : Int32))), (3, .int l4_4), (5, .int st_5), (0, .ref h_t_), (1, .int x1), (2, .int x2)] dX8_nextInTitle_69 rfl rfl (by decide) rfl ?_
            refine gq_goto hC 5 dX8_nextInTitle_72 (by decide) ?_
            refine gq_sub [(0, .ref h_t_), (1, .int x1), (2, .int x2), (3, .int l4_4), (4, .int (l4_4 + (1 : Int32)))] [3, 4, 5, 1, 0] rfl ?_
            exact ih l4_4 (l4_4 + (1 : Int32)) hF
          · have hF := (if_neg hc_8).symm.trans hF
            refine gq_aload_n hC 1 dX8_nextInTitle_55 rfl rfl ?_
            refine gq_iload_n hC 2 dX8_nextInTitle_56 rfl rfl ?_
            refine gq_iload hC 5 dX8_nextInTitle_57 rfl ?_
            refine gq_iload_n hC 4 dX8_nextInTitle_59 rfl rfl ?_
            obtain ⟨r_6, hc_, hF⟩ := ob1_e hF
            refine gq_callVi hC [0, 1, 2] [(h_t_, .inr (8, [.ref h_spread, .ref h_counts])), (h_spread, .inl (cI, 24, .inl v_spread)), (h_counts, .inl (cI, 768, .inl v_counts))] [.int x1, .int l4_4, .int l3_3] [] (k_X8_precedes l D cI cJ cZ cO z h_t_ h_spread h_counts x1 l4_4 l3_3 v_spread v_counts r_6 hc_) gX8_nextInTitle_X8_precedes rfl ⟨rfl, rfl⟩ hy_X8_precedes ⟨Nat.le_of_ble_eq_true rfl, Nat.le_of_ble_eq_true rfl⟩ rfl rfl rfl (q0 := 0) rfl rfl rfl (Nat.le_of_ble_eq_true rfl) rfl dX8_nextInTitle_60 rfl rfl ?_
            refine gq_if_eq hC 69 dX8_nextInTitle_63 (by decide) (fun hc_7 => ?_) (fun hc_7 => ?_)
            · have hF := (if_pos hc_7).symm.trans hF
              refine gq_iinc hC 5 (l4_4 + (1 : Int32)) [(4, .int (l4_4 + (1 : Int32))), (5, .int st_5), (0, .ref h_t_), (1, .int x1), (2, .int x2), (3, .int l3_3)] dX8_nextInTitle_69 rfl rfl (by decide) rfl ?_
              refine gq_goto hC 5 dX8_nextInTitle_72 (by decide) ?_
              refine gq_sub [(0, .ref h_t_), (1, .int x1), (2, .int x2), (3, .int l3_3), (4, .int (l4_4 + (1 : Int32)))] [2, 3, 4, 5, 0] rfl ?_
              exact ih l3_3 (l4_4 + (1 : Int32)) hF
            · have hF := (if_neg hc_7).symm.trans hF
              refine gq_iload hC 5 dX8_nextInTitle_66 rfl ?_
              refine gq_istore_n hC [(3, .int l4_4), (5, .int st_5), (0, .ref h_t_), (1, .int x1), (2, .int x2), (4, .int l4_4)] dX8_nextInTitle_68 rfl (by decide) rfl ?_
              refine gq_iinc hC 5 (l4_4 + (1 : Int32)) [(4, .int (l4_4 + (1 : Int32))), (3, .int l4_4), (5, .int st_5), (0, .ref h_t_), (1, .int x1), (2, .int x2)] dX8_nextInTitle_69 rfl rfl (by decide) rfl ?_
              refine gq_goto hC 5 dX8_nextInTitle_72 (by decide) ?_
              refine gq_sub [(0, .ref h_t_), (1, .int x1), (2, .int x2), (3, .int l4_4), (4, .int (l4_4 + (1 : Int32)))] [3, 4, 5, 1, 0] rfl ?_
              exact ih l4_4 (l4_4 + (1 : Int32)) hF
      have jb42 : ∀ (l3_10 : Int32) (l4_11 : Int32), F_X8_nextInTitle_b42 (wh (fun k q => S_X8_nextInTitle_5 x1 x2 v_spread v_counts k q.1 q.2) N) x1 x2 l3_10 l4_11 v_spread v_counts = some e_20 → Gx p l e (rmD 2) s m args below meth c D A 6 Q 0 0 42 [(0, .ref h_t_), (1, .int x1), (2, .int x2), (3, .int l3_10), (4, .int l4_11)] [] [(h_t_, .inr (8, [.ref h_spread, .ref h_counts])), (h_spread, .inl (cI, 24, .inl v_spread)), (h_counts, .inl (cI, 768, .inl v_counts))] := by
        intro l3_10 l4_11 hF
        unfold F_X8_nextInTitle_b42 at hF
        refine gq_iconst hC (0 : Int32) dX8_nextInTitle_42 (by decide) ?_
        exact jb43 l3_10 l4_11 (0 : Int32) hF
      have jb38 : ∀ (l3_12 : Int32) (l4_13 : Int32), F_X8_nextInTitle_b38 (wh (fun k q => S_X8_nextInTitle_5 x1 x2 v_spread v_counts k q.1 q.2) N) x1 x2 l3_12 l4_13 v_spread v_counts = some e_20 → Gx p l e (rmD 2) s m args below meth c D A 6 Q 0 0 38 [(0, .ref h_t_), (1, .int x1), (2, .int x2), (3, .int l3_12), (4, .int l4_13)] [] [(h_t_, .inr (8, [.ref h_spread, .ref h_counts])), (h_spread, .inl (cI, 24, .inl v_spread)), (h_counts, .inl (cI, 768, .inl v_counts))] := by
        intro l3_12 l4_13 hF
        unfold F_X8_nextInTitle_b38 at hF
        refine gq_iconst hC (1 : Int32) dX8_nextInTitle_38 (by decide) ?_
        refine gq_goto hC 43 dX8_nextInTitle_39 (by decide) ?_
        exact jb43 l3_12 l4_13 (1 : Int32) hF
      intro l3_1 l4_2 hw
      have hF : S_X8_nextInTitle_5 x1 x2 v_spread v_counts (wh (fun k q => S_X8_nextInTitle_5 x1 x2 v_spread v_counts k q.1 q.2) N) l3_1 l4_2 = some e_20 := hw
      unfold S_X8_nextInTitle_5 at hF
      refine gq_iload hC 4 dX8_nextInTitle_5 rfl ?_
      refine gq_bipush hC (24 : Int32) dX8_nextInTitle_7 (by decide) ?_
      refine gq_icmp_ge hC 75 dX8_nextInTitle_9 (by decide) (fun hc_19 => ?_) (fun hc_19 => ?_)
      · have hF := (if_pos hc_19).symm.trans hF
        refine gq_sub [(3, .int l3_1)] [3] rfl ?_
        cases hF
        exact hx0
      · have hF := (if_neg hc_19).symm.trans hF
        refine gq_aload_n hC 0 dX8_nextInTitle_12 rfl rfl ?_
        refine gq_iload_n hC 1 dX8_nextInTitle_13 rfl rfl ?_
        refine gq_iload hC 4 dX8_nextInTitle_14 rfl ?_
        obtain ⟨r_14, hc_, hF⟩ := ob1_e hF
        refine gq_callVi hC [0, 2] [(h_t_, .inr (8, [.ref h_spread, .ref h_counts])), (h_spread, .inl (cI, 24, .inl v_spread)), (h_counts, .inl (cI, 768, .inl v_counts))] [.int x1, .int l4_2] [] (k_X8_stands l D cI cJ cZ cO z h_t_ h_counts h_spread x1 l4_2 v_counts r_14 hc_) gX8_nextInTitle_X8_stands rfl ⟨rfl, rfl⟩ hy_X8_stands ⟨Nat.le_of_ble_eq_true rfl, Nat.le_of_ble_eq_true rfl⟩ rfl rfl rfl (q0 := 0) rfl rfl rfl (Nat.le_of_ble_eq_true rfl) rfl dX8_nextInTitle_16 rfl rfl ?_
        refine gq_if_eq hC 42 dX8_nextInTitle_19 (by decide) (fun hc_18 => ?_) (fun hc_18 => ?_)
        · have hF := (if_pos hc_18).symm.trans hF
          exact jb42 l3_1 l4_2 hF
        · have hF := (if_neg hc_18).symm.trans hF
          refine gq_iload_n hC 2 dX8_nextInTitle_22 rfl rfl ?_
          refine gq_iconst hC (-1 : Int32) dX8_nextInTitle_23 (by decide) ?_
          refine gq_icmp_eq hC 38 dX8_nextInTitle_24 (by decide) (fun hc_17 => ?_) (fun hc_17 => ?_)
          · have hF := (if_pos hc_17).symm.trans hF
            exact jb38 l3_1 l4_2 hF
          · have hF := (if_neg hc_17).symm.trans hF
            refine gq_aload_n hC 0 dX8_nextInTitle_27 rfl rfl ?_
            refine gq_iload_n hC 1 dX8_nextInTitle_28 rfl rfl ?_
            refine gq_iload_n hC 2 dX8_nextInTitle_29 rfl rfl ?_
            refine gq_iload hC 4 dX8_nextInTitle_30 rfl ?_
            obtain ⟨r_15, hc_, hF⟩ := ob1_e hF
            refine gq_callVi hC [0, 1, 2] [(h_t_, .inr (8, [.ref h_spread, .ref h_counts])), (h_spread, .inl (cI, 24, .inl v_spread)), (h_counts, .inl (cI, 768, .inl v_counts))] [.int x1, .int x2, .int l4_2] [] (k_X8_precedes l D cI cJ cZ cO z h_t_ h_spread h_counts x1 x2 l4_2 v_spread v_counts r_15 hc_) gX8_nextInTitle_X8_precedes rfl ⟨rfl, rfl⟩ hy_X8_precedes ⟨Nat.le_of_ble_eq_true rfl, Nat.le_of_ble_eq_true rfl⟩ rfl rfl rfl (q0 := 0) rfl rfl rfl (Nat.le_of_ble_eq_true rfl) rfl dX8_nextInTitle_32 rfl rfl ?_
            refine gq_if_eq hC 42 dX8_nextInTitle_35 (by decide) (fun hc_16 => ?_) (fun hc_16 => ?_)
            · have hF := (if_pos hc_16).symm.trans hF
              exact jb42 l3_1 l4_2 hF
            · have hF := (if_neg hc_16).symm.trans hF
              exact jb38 l3_1 l4_2 hF
  refine gq_sub [(0, .ref h_t_), (1, .int x1), (2, .int x2), (3, .int (-1 : Int32)), (4, .int (0 : Int32))] [2, 3, 4, 1, 0] rfl ?_
  obtain ⟨e_21, hw_, hF⟩ := ob1_e hF
  refine lp5  e_21 ?_ wF (-1 : Int32) (0 : Int32) hw_
  refine gq_iload_n hC 0 dX8_nextInTitle_75 rfl rfl ?_
  cases hF
  rw [hQ]
  exact gq_iret hC rfl dX8_nextInTitle_76
theorem hy_X8_titleWord : yX8_titleWord.cls = RX8 ∧ yX8_titleWord.cls ≠ "java/lang/invoke/MethodHandle" ∧ yX8_titleWord.cls ≠ "java/lang/invoke/VarHandle" ∧ (parseMethodDescriptor yX8_titleWord.desc).map (fun d => d.parameters.length) = some 2 := by decide +kernel
set_option maxRecDepth 20000 in
set_option maxHeartbeats 4000000 in
theorem k_X8_titleWord (l : Launch) (D : va_G) (cI cJ cZ cO : ClassId) (z : Nat → Nat)   (h_t_ : Nat) (h_spread : Nat) (h_counts : Nat) (x1 : Int32) (x2 : Int32) (v_spread : Nat → Int32) (v_counts : Nat → Int32) (r_ : Int32) (hF : F_X8_titleWord x1 x2 v_spread v_counts = some r_) : Mi l yX8_titleWord wsX8_titleWord (rmD 3) D (gq_ty cI cJ cZ cO) z [.ref h_t_, .int x1, .int x2] [(h_t_, .inr (8, [.ref h_spread, .ref h_counts])), (h_spread, .inl (cI, 24, .inl v_spread)), (h_counts, .inl (cI, 768, .inl v_counts))] r_ [(h_t_, .inr (8, [.ref h_spread, .ref h_counts])), (h_spread, .inl (cI, 24, .inl v_spread)), (h_counts, .inl (cI, 768, .inl v_counts))] 0 0 := by
  refine Mi.of (cc := cX8_titleWord) (maxL := 5) (by decide) rfl (Nat.le_of_ble_eq_true rfl) ⟨Nat.le_refl 0, Nat.le_refl 0⟩ ?_
  intro p e s m args below meth c A hC ha
  obtain ⟨Q, hQ⟩ : ∃ Q, Q = gq_Qi below D A args s r_ [(h_t_, .inr (8, [.ref h_spread, .ref h_counts])), (h_spread, .inl (cI, 24, .inl v_spread)), (h_counts, .inl (cI, 768, .inl v_counts))] 0 0 := ⟨_, rfl⟩
  rw [← hQ]
  refine gq_loc [(0, .ref h_t_), (1, .int x1), (2, .int x2)] rfl ?_
  unfold F_X8_titleWord at hF
  refine gq_aload_n hC 0 dX8_titleWord_0 rfl rfl ?_
  refine gq_iload_n hC 1 dX8_titleWord_1 rfl rfl ?_
  refine gq_iconst hC (-1 : Int32) dX8_titleWord_2 (by decide) ?_
  obtain ⟨r_1, hc_, hF⟩ := ob1_e hF
  refine gq_callVi hC [0, 1, 2] [(h_t_, .inr (8, [.ref h_spread, .ref h_counts])), (h_spread, .inl (cI, 24, .inl v_spread)), (h_counts, .inl (cI, 768, .inl v_counts))] [.int x1, .int (-1 : Int32)] [] (k_X8_nextInTitle l D cI cJ cZ cO z h_t_ h_spread h_counts x1 (-1 : Int32) v_spread v_counts r_1 hc_) gX8_titleWord_X8_nextInTitle rfl ⟨rfl, rfl⟩ hy_X8_nextInTitle ⟨Nat.le_of_ble_eq_true rfl, Nat.le_of_ble_eq_true rfl⟩ rfl rfl rfl (q0 := 0) rfl rfl rfl (Nat.le_of_ble_eq_true rfl) rfl dX8_titleWord_3 rfl rfl ?_
  refine gq_istore_n hC [(3, .int r_1), (0, .ref h_t_), (1, .int x1), (2, .int x2)] dX8_titleWord_6 rfl (by decide) rfl ?_
  refine gq_iconst hC (0 : Int32) dX8_titleWord_7 (by decide) ?_
  refine gq_istore hC [(4, .int (0 : Int32)), (3, .int r_1), (0, .ref h_t_), (1, .int x1), (2, .int x2)] dX8_titleWord_8 (by decide) rfl ?_
  have lp10 : ∀ (e_7 : Int32), Gx p l e (rmD 3) s m args below meth c D A 5 Q 0 0 34 [(3, .int e_7)] [] [(h_t_, .inr (8, [.ref h_spread, .ref h_counts])), (h_spread, .inl (cI, 24, .inl v_spread)), (h_counts, .inl (cI, 768, .inl v_counts))] → ∀ (N : Nat) (l3_2 : Int32) (l4_3 : Int32), wh (fun k q => S_X8_titleWord_10 x1 x2 v_spread v_counts k q.1 q.2) N (l3_2, l4_3) = some e_7 → Gx p l e (rmD 3) s m args below meth c D A 5 Q 0 0 10 [(0, .ref h_t_), (1, .int x1), (2, .int x2), (3, .int l3_2), (4, .int l4_3)] [] [(h_t_, .inr (8, [.ref h_spread, .ref h_counts])), (h_spread, .inl (cI, 24, .inl v_spread)), (h_counts, .inl (cI, 768, .inl v_counts))] := by
    intro e_7 hx0 N
    induction N with
    | zero => intro l3_2 l4_3 hw; exact absurd hw (wh_0 _ _ _)
    | succ N ih =>
      intro l3_2 l4_3 hw
      have hF : S_X8_titleWord_10 x1 x2 v_spread v_counts (wh (fun k q => S_X8_titleWord_10 x1 x2 v_spread v_counts k q.1 q.2) N) l3_2 l4_3 = some e_7 := hw
      unfold S_X8_titleWord_10 at hF
      refine gq_iload hC 4 dX8_titleWord_10 rfl ?_
      refine gq_iload_n hC 2 dX8_titleWord_12 rfl rfl ?_
      refine gq_icmp_ge hC 34 dX8_titleWord_13 (by decide) (fun hc_6 => ?_) (fun hc_6 => ?_)
      · have hF := (if_pos hc_6).symm.trans hF
        refine gq_sub [(3, .int l3_2)] [3] rfl ?_
        cases hF
        exact hx0
      · have hF := (if_neg hc_6).symm.trans hF
        refine gq_iload_n hC 3 dX8_titleWord_16 rfl rfl ?_
        refine gq_iconst hC (-1 : Int32) dX8_titleWord_17 (by decide) ?_
        refine gq_icmp_eq hC 34 dX8_titleWord_18 (by decide) (fun hc_5 => ?_) (fun hc_5 => ?_)
        · have hF := (if_pos hc_5).symm.trans hF
          refine gq_sub [(3, .int l3_2)] [3] rfl ?_
          cases hF
          exact hx0
        · have hF := (if_neg hc_5).symm.trans hF
          refine gq_aload_n hC 0 dX8_titleWord_21 rfl rfl ?_
          refine gq_iload_n hC 1 dX8_titleWord_22 rfl rfl ?_
          refine gq_iload_n hC 3 dX8_titleWord_23 rfl rfl ?_
          obtain ⟨r_4, hc_, hF⟩ := ob1_e hF
          refine gq_callVi hC [0, 1, 2] [(h_t_, .inr (8, [.ref h_spread, .ref h_counts])), (h_spread, .inl (cI, 24, .inl v_spread)), (h_counts, .inl (cI, 768, .inl v_counts))] [.int x1, .int l3_2] [] (k_X8_nextInTitle l D cI cJ cZ cO z h_t_ h_spread h_counts x1 l3_2 v_spread v_counts r_4 hc_) gX8_titleWord_X8_nextInTitle rfl ⟨rfl, rfl⟩ hy_X8_nextInTitle ⟨Nat.le_of_ble_eq_true rfl, Nat.le_of_ble_eq_true rfl⟩ rfl rfl rfl (q0 := 0) rfl rfl rfl (Nat.le_of_ble_eq_true rfl) rfl dX8_titleWord_24 rfl rfl ?_
          refine gq_istore_n hC [(3, .int r_4), (0, .ref h_t_), (1, .int x1), (2, .int x2), (4, .int l4_3)] dX8_titleWord_27 rfl (by decide) rfl ?_
          refine gq_iinc hC 4 (l4_3 + (1 : Int32)) [(4, .int (l4_3 + (1 : Int32))), (3, .int r_4), (0, .ref h_t_), (1, .int x1), (2, .int x2)] dX8_titleWord_28 rfl rfl (by decide) rfl ?_
          refine gq_goto hC 10 dX8_titleWord_31 (by decide) ?_
          refine gq_sub [(0, .ref h_t_), (1, .int x1), (2, .int x2), (3, .int r_4), (4, .int (l4_3 + (1 : Int32)))] [2, 3, 4, 1, 0] rfl ?_
          exact ih r_4 (l4_3 + (1 : Int32)) hF
  refine gq_sub [(0, .ref h_t_), (1, .int x1), (2, .int x2), (3, .int r_1), (4, .int (0 : Int32))] [2, 3, 4, 1, 0] rfl ?_
  obtain ⟨e_8, hw_, hF⟩ := ob1_e hF
  refine lp10  e_8 ?_ wF r_1 (0 : Int32) hw_
  refine gq_iload_n hC 0 dX8_titleWord_34 rfl rfl ?_
  cases hF
  rw [hQ]
  exact gq_iret hC rfl dX8_titleWord_35
