theorem gq_ag {p : Program} {l : Launch} {e : Env} {R : Room} {s : State} {m : MethodId} {args : Array Value} {below : List Frame} {meth : Method} {c : Code} {D : va_G} {A : Nat → Prop} {nL : Nat} {Q : State → Prop} {k n pc : Nat} {lv : List (Nat × Value)} {st : List Value} {x : Nat × va_E} {T y : va_W} (kk : ∀ T' : va_W, T' = T ++ y → Gx p l e R s m args below meth c D A nL Q k n pc lv st (x :: T')) : Gx p l e R s m args below meth c D A nL Q k n pc lv st ((x :: T) ++ y) := kk _ rfl
def PX11 (cI cJ cZ cO : ClassId) (q : Nat) (W : va_W) : Prop := ∃ (q1 q2 q3 q4 q5 q6 q7 q8 q9 q10 q11 q12 q13 : Nat) (fr ar : Nat → Int64), MR A0f ar ∧ W = [(q, .inr (11, [.ref q1, .ref q2, .ref q3, .int 0, .int 0, .ref q4, .int 0, .int 0, .int 0, .int 0, .int 0, .int 0, .int 0, .int (-1), .long 0, .ref q5, .ref q6, .ref q7, .ref q8, .ref q9, .int (-1), .int (-1), .ref q10, .ref q11, .ref q12, .ref q13, .int 0])), (q1, .inl (cJ, 499, .inr (.inl ar))), (q2, .inl (cJ, 499, .inr (.inl fr))), (q3, .inl (cJ, 3992, .inr (.inl (fun _ => 0)))), (q4, .inl (cI, 900, .inl (fun _ => 0))), (q5, .inl (cI, 33, .inl (fun _ => 0))), (q6, .inl (cI, 33, .inl (fun _ => 0))), (q7, .inl (cI, 33, .inl (fun _ => 0))), (q8, .inl (cI, 32, .inl (fun _ => 0))), (q9, .inl (cJ, 33, .inr (.inl (fun _ => 0)))), (q10, .inl (cI, 160, .inl (fun _ => 0))), (q11, .inl (cI, 5, .inl (fun _ => 0))), (q12, .inl (cZ, 32, .inl (fun _ => 0))), (q13, .inl (cI, 1200, .inl (fun _ => 0)))]
set_option maxHeartbeats 4000000 in
set_option maxRecDepth 100000 in
theorem kc_X11 (l : Launch) (D : va_G) (cI cJ cZ cO : ClassId) (z : Nat → Nat) (q : Nat) : Cv l yX11_init wsX11_init (rmC 2 13 7451) D (gq_ty cI cJ cZ cO) cI z [.ref q] [(q, .inr (11, [.null, .null, .null, .int 0, .int 0, .null, .int 0, .int 0, .int 0, .int 0, .int 0, .int 0, .int 0, .int 0, .long 0, .null, .null, .null, .null, .null, .int 0, .int 0, .null, .null, .null, .null, .int 0]))] (PX11 cI cJ cZ cO q) 13 7451 := by
  refine Cv.of (cc := cX11_init) (maxL := 1) (by decide) rfl rfl (Nat.le_of_ble_eq_true rfl) ?_
  intro p e s m args below meth c A hC hN hnm
  have hin_X11 : ∀ w ∈ wsX110, w ∈ wsX11_init := fun w h => List.mem_cons_of_mem _ (List.mem_append_right _ h)
  refine gq_loc [(0, .ref q)] rfl ?_
  obtain ⟨fr, f1, f2⟩ := q_begins (fr := fun _ => 0)
  obtain ⟨ar, g1, g2⟩ := q_becomes (a := fun _ => 0) f2
  refine gq_aload_n hC 0 dX11_init_0 rfl rfl ?_
  refine gq_oinit hC (List.mem_of_getElem? (i := 1) rfl) (List.mem_of_getElem? (i := 2) rfl) (List.mem_of_getElem? (i := 3) rfl) dX11_init_1 ⟨Nat.le_of_ble_eq_true rfl, Nat.le_of_ble_eq_true rfl⟩ ?_
  refine gq_aload_n hC 0 dX11_init_4 rfl rfl ?_
  refine gq_sipush hC 499 dX11_init_5 (by decide) ?_
  refine gq_newJ hC (N := 499) (t0 := 1) (List.mem_of_getElem? (i := 4) rfl) rfl (by decide) (by decide) (by decide) ⟨Nat.le_of_ble_eq_true rfl, Nat.le_of_ble_eq_true rfl⟩ dX11_init_8 (fun q1 => ?_)
  have hC := gq_at (k' := 1) (n' := 499) hC ⟨Nat.le_of_ble_eq_true rfl, Nat.le_of_ble_eq_true rfl⟩
  refine gq_ag (fun T1 hT1 => ?_)
  refine gq_putF hC (kf := 0) 0 ((q, .inr (11, [.ref q1, .null, .null, .int 0, .int 0, .null, .int 0, .int 0, .int 0, .int 0, .int 0, .int 0, .int 0, .int 0, .long 0, .null, .null, .null, .null, .null, .int 0, .int 0, .null, .null, .null, .null, .int 0])) :: T1) hnm tyX11 tyX11_ok nmX11 hin_X11 rfl rfl (by decide) (show Cond.fieldLink RX11 9 (TX11 0).1 (TX11 0).2.1 (TX11 0).2.2.1 ∈ wsX11_init from List.mem_of_getElem? (i := 5) rfl) rfl rfl rfl rfl (Nat.le_of_ble_eq_true rfl) dX11_init_10 rfl ?_
  refine gq_aload_n hC 0 dX11_init_13 rfl rfl ?_
  refine gq_sipush hC 499 dX11_init_14 (by decide) ?_
  refine gq_newJ hC (N := 499) (t0 := 1) (List.mem_of_getElem? (i := 4) rfl) rfl (by decide) (by decide) (by decide) ⟨Nat.le_of_ble_eq_true rfl, Nat.le_of_ble_eq_true rfl⟩ dX11_init_17 (fun q2 => ?_)
  have hC := gq_at (k' := 2) (n' := 998) hC ⟨Nat.le_of_ble_eq_true rfl, Nat.le_of_ble_eq_true rfl⟩
  refine gq_ag (fun T2 hT2 => ?_)
  refine gq_putF hC (kf := 1) 0 ((q, .inr (11, [.ref q1, .ref q2, .null, .int 0, .int 0, .null, .int 0, .int 0, .int 0, .int 0, .int 0, .int 0, .int 0, .int 0, .long 0, .null, .null, .null, .null, .null, .int 0, .int 0, .null, .null, .null, .null, .int 0])) :: T2) hnm tyX11 tyX11_ok nmX11 hin_X11 rfl rfl (by decide) (show Cond.fieldLink RX11 13 (TX11 1).1 (TX11 1).2.1 (TX11 1).2.2.1 ∈ wsX11_init from List.mem_of_getElem? (i := 6) rfl) rfl rfl rfl rfl (Nat.le_of_ble_eq_true rfl) dX11_init_19 rfl ?_
  refine gq_aload_n hC 0 dX11_init_22 rfl rfl ?_
  refine gq_sipush hC 3992 dX11_init_23 (by decide) ?_
  refine gq_newJ hC (N := 3992) (t0 := 1) (List.mem_of_getElem? (i := 4) rfl) rfl (by decide) (by decide) (by decide) ⟨Nat.le_of_ble_eq_true rfl, Nat.le_of_ble_eq_true rfl⟩ dX11_init_26 (fun q3 => ?_)
  have hC := gq_at (k' := 3) (n' := 4990) hC ⟨Nat.le_of_ble_eq_true rfl, Nat.le_of_ble_eq_true rfl⟩
  refine gq_ag (fun T3 hT3 => ?_)
  refine gq_putF hC (kf := 2) 0 ((q, .inr (11, [.ref q1, .ref q2, .ref q3, .int 0, .int 0, .null, .int 0, .int 0, .int 0, .int 0, .int 0, .int 0, .int 0, .int 0, .long 0, .null, .null, .null, .null, .null, .int 0, .int 0, .null, .null, .null, .null, .int 0])) :: T3) hnm tyX11 tyX11_ok nmX11 hin_X11 rfl rfl (by decide) (show Cond.fieldLink RX11 16 (TX11 2).1 (TX11 2).2.1 (TX11 2).2.2.1 ∈ wsX11_init from List.mem_of_getElem? (i := 7) rfl) rfl rfl rfl rfl (Nat.le_of_ble_eq_true rfl) dX11_init_28 rfl ?_
  refine gq_aload_n hC 0 dX11_init_31 rfl rfl ?_
  refine gq_sipush hC 900 dX11_init_32 (by decide) ?_
  refine gq_newI hC (N := 900) (t0 := 0) (List.mem_of_getElem? (i := 8) rfl) rfl (by decide) (by decide) (by decide) ⟨Nat.le_of_ble_eq_true rfl, Nat.le_of_ble_eq_true rfl⟩ dX11_init_35 (fun q4 => ?_)
  have hC := gq_at (k' := 4) (n' := 5890) hC ⟨Nat.le_of_ble_eq_true rfl, Nat.le_of_ble_eq_true rfl⟩
  refine gq_ag (fun T4 hT4 => ?_)
  refine gq_putF hC (kf := 5) 0 ((q, .inr (11, [.ref q1, .ref q2, .ref q3, .int 0, .int 0, .ref q4, .int 0, .int 0, .int 0, .int 0, .int 0, .int 0, .int 0, .int 0, .long 0, .null, .null, .null, .null, .null, .int 0, .int 0, .null, .null, .null, .null, .int 0])) :: T4) hnm tyX11 tyX11_ok nmX11 hin_X11 rfl rfl (by decide) (show Cond.fieldLink RX11 19 (TX11 5).1 (TX11 5).2.1 (TX11 5).2.2.1 ∈ wsX11_init from List.mem_of_getElem? (i := 9) rfl) rfl rfl rfl rfl (Nat.le_of_ble_eq_true rfl) dX11_init_37 rfl ?_
  refine gq_aload_n hC 0 dX11_init_40 rfl rfl ?_
  refine gq_iconst hC (-1) dX11_init_41 (by decide) ?_
  refine gq_put1 hC (kf := 13) 0 ((q, .inr (11, [.ref q1, .ref q2, .ref q3, .int 0, .int 0, .ref q4, .int 0, .int 0, .int 0, .int 0, .int 0, .int 0, .int 0, .int (-1), .long 0, .null, .null, .null, .null, .null, .int 0, .int 0, .null, .null, .null, .null, .int 0])) :: T4) tyX11 tyX11_ok nmX11 hin_X11 rfl rfl (by decide) (show Cond.fieldLink RX11 23 (TX11 13).1 (TX11 13).2.1 (TX11 13).2.2.1 ∈ wsX11_init from List.mem_of_getElem? (i := 10) rfl) rfl rfl rfl (Nat.le_of_ble_eq_true rfl) dX11_init_42 rfl ?_
  refine gq_aload_n hC 0 dX11_init_45 rfl rfl ?_
  refine gq_bipush hC 33 dX11_init_46 (by decide) ?_
  refine gq_newI hC (N := 33) (t0 := 0) (List.mem_of_getElem? (i := 8) rfl) rfl (by decide) (by decide) (by decide) ⟨Nat.le_of_ble_eq_true rfl, Nat.le_of_ble_eq_true rfl⟩ dX11_init_48 (fun q5 => ?_)
  have hC := gq_at (k' := 5) (n' := 5923) hC ⟨Nat.le_of_ble_eq_true rfl, Nat.le_of_ble_eq_true rfl⟩
  refine gq_ag (fun T5 hT5 => ?_)
  refine gq_putF hC (kf := 15) 0 ((q, .inr (11, [.ref q1, .ref q2, .ref q3, .int 0, .int 0, .ref q4, .int 0, .int 0, .int 0, .int 0, .int 0, .int 0, .int 0, .int (-1), .long 0, .ref q5, .null, .null, .null, .null, .int 0, .int 0, .null, .null, .null, .null, .int 0])) :: T5) hnm tyX11 tyX11_ok nmX11 hin_X11 rfl rfl (by decide) (show Cond.fieldLink RX11 27 (TX11 15).1 (TX11 15).2.1 (TX11 15).2.2.1 ∈ wsX11_init from List.mem_of_getElem? (i := 11) rfl) rfl rfl rfl rfl (Nat.le_of_ble_eq_true rfl) dX11_init_50 rfl ?_
  refine gq_aload_n hC 0 dX11_init_53 rfl rfl ?_
  refine gq_bipush hC 33 dX11_init_54 (by decide) ?_
  refine gq_newI hC (N := 33) (t0 := 0) (List.mem_of_getElem? (i := 8) rfl) rfl (by decide) (by decide) (by decide) ⟨Nat.le_of_ble_eq_true rfl, Nat.le_of_ble_eq_true rfl⟩ dX11_init_56 (fun q6 => ?_)
  have hC := gq_at (k' := 6) (n' := 5956) hC ⟨Nat.le_of_ble_eq_true rfl, Nat.le_of_ble_eq_true rfl⟩
  refine gq_ag (fun T6 hT6 => ?_)
  refine gq_putF hC (kf := 16) 0 ((q, .inr (11, [.ref q1, .ref q2, .ref q3, .int 0, .int 0, .ref q4, .int 0, .int 0, .int 0, .int 0, .int 0, .int 0, .int 0, .int (-1), .long 0, .ref q5, .ref q6, .null, .null, .null, .int 0, .int 0, .null, .null, .null, .null, .int 0])) :: T6) hnm tyX11 tyX11_ok nmX11 hin_X11 rfl rfl (by decide) (show Cond.fieldLink RX11 30 (TX11 16).1 (TX11 16).2.1 (TX11 16).2.2.1 ∈ wsX11_init from List.mem_of_getElem? (i := 12) rfl) rfl rfl rfl rfl (Nat.le_of_ble_eq_true rfl) dX11_init_58 rfl ?_
  refine gq_aload_n hC 0 dX11_init_61 rfl rfl ?_
  refine gq_bipush hC 33 dX11_init_62 (by decide) ?_
  refine gq_newI hC (N := 33) (t0 := 0) (List.mem_of_getElem? (i := 8) rfl) rfl (by decide) (by decide) (by decide) ⟨Nat.le_of_ble_eq_true rfl, Nat.le_of_ble_eq_true rfl⟩ dX11_init_64 (fun q7 => ?_)
  have hC := gq_at (k' := 7) (n' := 5989) hC ⟨Nat.le_of_ble_eq_true rfl, Nat.le_of_ble_eq_true rfl⟩
  refine gq_ag (fun T7 hT7 => ?_)
  refine gq_putF hC (kf := 17) 0 ((q, .inr (11, [.ref q1, .ref q2, .ref q3, .int 0, .int 0, .ref q4, .int 0, .int 0, .int 0, .int 0, .int 0, .int 0, .int 0, .int (-1), .long 0, .ref q5, .ref q6, .ref q7, .null, .null, .int 0, .int 0, .null, .null, .null, .null, .int 0])) :: T7) hnm tyX11 tyX11_ok nmX11 hin_X11 rfl rfl (by decide) (show Cond.fieldLink RX11 33 (TX11 17).1 (TX11 17).2.1 (TX11 17).2.2.1 ∈ wsX11_init from List.mem_of_getElem? (i := 13) rfl) rfl rfl rfl rfl (Nat.le_of_ble_eq_true rfl) dX11_init_66 rfl ?_
  refine gq_aload_n hC 0 dX11_init_69 rfl rfl ?_
  refine gq_bipush hC 32 dX11_init_70 (by decide) ?_
  refine gq_newI hC (N := 32) (t0 := 0) (List.mem_of_getElem? (i := 8) rfl) rfl (by decide) (by decide) (by decide) ⟨Nat.le_of_ble_eq_true rfl, Nat.le_of_ble_eq_true rfl⟩ dX11_init_72 (fun q8 => ?_)
  have hC := gq_at (k' := 8) (n' := 6021) hC ⟨Nat.le_of_ble_eq_true rfl, Nat.le_of_ble_eq_true rfl⟩
  refine gq_ag (fun T8 hT8 => ?_)
  refine gq_putF hC (kf := 18) 0 ((q, .inr (11, [.ref q1, .ref q2, .ref q3, .int 0, .int 0, .ref q4, .int 0, .int 0, .int 0, .int 0, .int 0, .int 0, .int 0, .int (-1), .long 0, .ref q5, .ref q6, .ref q7, .ref q8, .null, .int 0, .int 0, .null, .null, .null, .null, .int 0])) :: T8) hnm tyX11 tyX11_ok nmX11 hin_X11 rfl rfl (by decide) (show Cond.fieldLink RX11 36 (TX11 18).1 (TX11 18).2.1 (TX11 18).2.2.1 ∈ wsX11_init from List.mem_of_getElem? (i := 14) rfl) rfl rfl rfl rfl (Nat.le_of_ble_eq_true rfl) dX11_init_74 rfl ?_
  refine gq_aload_n hC 0 dX11_init_77 rfl rfl ?_
  refine gq_bipush hC 33 dX11_init_78 (by decide) ?_
  refine gq_newJ hC (N := 33) (t0 := 1) (List.mem_of_getElem? (i := 4) rfl) rfl (by decide) (by decide) (by decide) ⟨Nat.le_of_ble_eq_true rfl, Nat.le_of_ble_eq_true rfl⟩ dX11_init_80 (fun q9 => ?_)
  have hC := gq_at (k' := 9) (n' := 6054) hC ⟨Nat.le_of_ble_eq_true rfl, Nat.le_of_ble_eq_true rfl⟩
  refine gq_ag (fun T9 hT9 => ?_)
  refine gq_putF hC (kf := 19) 0 ((q, .inr (11, [.ref q1, .ref q2, .ref q3, .int 0, .int 0, .ref q4, .int 0, .int 0, .int 0, .int 0, .int 0, .int 0, .int 0, .int (-1), .long 0, .ref q5, .ref q6, .ref q7, .ref q8, .ref q9, .int 0, .int 0, .null, .null, .null, .null, .int 0])) :: T9) hnm tyX11 tyX11_ok nmX11 hin_X11 rfl rfl (by decide) (show Cond.fieldLink RX11 39 (TX11 19).1 (TX11 19).2.1 (TX11 19).2.2.1 ∈ wsX11_init from List.mem_of_getElem? (i := 15) rfl) rfl rfl rfl rfl (Nat.le_of_ble_eq_true rfl) dX11_init_82 rfl ?_
  refine gq_aload_n hC 0 dX11_init_85 rfl rfl ?_
  refine gq_iconst hC (-1) dX11_init_86 (by decide) ?_
  refine gq_put1 hC (kf := 20) 0 ((q, .inr (11, [.ref q1, .ref q2, .ref q3, .int 0, .int 0, .ref q4, .int 0, .int 0, .int 0, .int 0, .int 0, .int 0, .int 0, .int (-1), .long 0, .ref q5, .ref q6, .ref q7, .ref q8, .ref q9, .int (-1), .int 0, .null, .null, .null, .null, .int 0])) :: T9) tyX11 tyX11_ok nmX11 hin_X11 rfl rfl (by decide) (show Cond.fieldLink RX11 42 (TX11 20).1 (TX11 20).2.1 (TX11 20).2.2.1 ∈ wsX11_init from List.mem_of_getElem? (i := 16) rfl) rfl rfl rfl (Nat.le_of_ble_eq_true rfl) dX11_init_87 rfl ?_
  refine gq_aload_n hC 0 dX11_init_90 rfl rfl ?_
  refine gq_iconst hC (-1) dX11_init_91 (by decide) ?_
  refine gq_put1 hC (kf := 21) 0 ((q, .inr (11, [.ref q1, .ref q2, .ref q3, .int 0, .int 0, .ref q4, .int 0, .int 0, .int 0, .int 0, .int 0, .int 0, .int 0, .int (-1), .long 0, .ref q5, .ref q6, .ref q7, .ref q8, .ref q9, .int (-1), .int (-1), .null, .null, .null, .null, .int 0])) :: T9) tyX11 tyX11_ok nmX11 hin_X11 rfl rfl (by decide) (show Cond.fieldLink RX11 45 (TX11 21).1 (TX11 21).2.1 (TX11 21).2.2.1 ∈ wsX11_init from List.mem_of_getElem? (i := 17) rfl) rfl rfl rfl (Nat.le_of_ble_eq_true rfl) dX11_init_92 rfl ?_
  refine gq_aload_n hC 0 dX11_init_95 rfl rfl ?_
  refine gq_sipush hC 160 dX11_init_96 (by decide) ?_
  refine gq_newI hC (N := 160) (t0 := 0) (List.mem_of_getElem? (i := 8) rfl) rfl (by decide) (by decide) (by decide) ⟨Nat.le_of_ble_eq_true rfl, Nat.le_of_ble_eq_true rfl⟩ dX11_init_99 (fun q10 => ?_)
  have hC := gq_at (k' := 10) (n' := 6214) hC ⟨Nat.le_of_ble_eq_true rfl, Nat.le_of_ble_eq_true rfl⟩
  refine gq_ag (fun T10 hT10 => ?_)
  refine gq_putF hC (kf := 22) 0 ((q, .inr (11, [.ref q1, .ref q2, .ref q3, .int 0, .int 0, .ref q4, .int 0, .int 0, .int 0, .int 0, .int 0, .int 0, .int 0, .int (-1), .long 0, .ref q5, .ref q6, .ref q7, .ref q8, .ref q9, .int (-1), .int (-1), .ref q10, .null, .null, .null, .int 0])) :: T10) hnm tyX11 tyX11_ok nmX11 hin_X11 rfl rfl (by decide) (show Cond.fieldLink RX11 48 (TX11 22).1 (TX11 22).2.1 (TX11 22).2.2.1 ∈ wsX11_init from List.mem_of_getElem? (i := 18) rfl) rfl rfl rfl rfl (Nat.le_of_ble_eq_true rfl) dX11_init_101 rfl ?_
  refine gq_aload_n hC 0 dX11_init_104 rfl rfl ?_
  refine gq_iconst hC 5 dX11_init_105 (by decide) ?_
  refine gq_newI hC (N := 5) (t0 := 0) (List.mem_of_getElem? (i := 8) rfl) rfl (by decide) (by decide) (by decide) ⟨Nat.le_of_ble_eq_true rfl, Nat.le_of_ble_eq_true rfl⟩ dX11_init_106 (fun q11 => ?_)
  have hC := gq_at (k' := 11) (n' := 6219) hC ⟨Nat.le_of_ble_eq_true rfl, Nat.le_of_ble_eq_true rfl⟩
  refine gq_ag (fun T11 hT11 => ?_)
  refine gq_putF hC (kf := 23) 0 ((q, .inr (11, [.ref q1, .ref q2, .ref q3, .int 0, .int 0, .ref q4, .int 0, .int 0, .int 0, .int 0, .int 0, .int 0, .int 0, .int (-1), .long 0, .ref q5, .ref q6, .ref q7, .ref q8, .ref q9, .int (-1), .int (-1), .ref q10, .ref q11, .null, .null, .int 0])) :: T11) hnm tyX11 tyX11_ok nmX11 hin_X11 rfl rfl (by decide) (show Cond.fieldLink RX11 51 (TX11 23).1 (TX11 23).2.1 (TX11 23).2.2.1 ∈ wsX11_init from List.mem_of_getElem? (i := 19) rfl) rfl rfl rfl rfl (Nat.le_of_ble_eq_true rfl) dX11_init_108 rfl ?_
  refine gq_aload_n hC 0 dX11_init_111 rfl rfl ?_
  refine gq_bipush hC 32 dX11_init_112 (by decide) ?_
  refine gq_newZ hC (N := 32) (t0 := 2) (List.mem_of_getElem? (i := 20) rfl) rfl (by decide) (by decide) (by decide) ⟨Nat.le_of_ble_eq_true rfl, Nat.le_of_ble_eq_true rfl⟩ dX11_init_114 (fun q12 => ?_)
  have hC := gq_at (k' := 12) (n' := 6251) hC ⟨Nat.le_of_ble_eq_true rfl, Nat.le_of_ble_eq_true rfl⟩
  refine gq_ag (fun T12 hT12 => ?_)
  refine gq_putF hC (kf := 24) 0 ((q, .inr (11, [.ref q1, .ref q2, .ref q3, .int 0, .int 0, .ref q4, .int 0, .int 0, .int 0, .int 0, .int 0, .int 0, .int 0, .int (-1), .long 0, .ref q5, .ref q6, .ref q7, .ref q8, .ref q9, .int (-1), .int (-1), .ref q10, .ref q11, .ref q12, .null, .int 0])) :: T12) hnm tyX11 tyX11_ok nmX11 hin_X11 rfl rfl (by decide) (show Cond.fieldLink RX11 54 (TX11 24).1 (TX11 24).2.1 (TX11 24).2.2.1 ∈ wsX11_init from List.mem_of_getElem? (i := 21) rfl) rfl rfl rfl rfl (Nat.le_of_ble_eq_true rfl) dX11_init_116 rfl ?_
  refine gq_aload_n hC 0 dX11_init_119 rfl rfl ?_
  refine gq_sipush hC 1200 dX11_init_120 (by decide) ?_
  refine gq_newI hC (N := 1200) (t0 := 0) (List.mem_of_getElem? (i := 8) rfl) rfl (by decide) (by decide) (by decide) ⟨Nat.le_of_ble_eq_true rfl, Nat.le_of_ble_eq_true rfl⟩ dX11_init_123 (fun q13 => ?_)
  have hC := gq_at (k' := 13) (n' := 7451) hC ⟨Nat.le_of_ble_eq_true rfl, Nat.le_of_ble_eq_true rfl⟩
  refine gq_ag (fun T13 hT13 => ?_)
  refine gq_putF hC (kf := 25) 0 ((q, .inr (11, [.ref q1, .ref q2, .ref q3, .int 0, .int 0, .ref q4, .int 0, .int 0, .int 0, .int 0, .int 0, .int 0, .int 0, .int (-1), .long 0, .ref q5, .ref q6, .ref q7, .ref q8, .ref q9, .int (-1), .int (-1), .ref q10, .ref q11, .ref q12, .ref q13, .int 0])) :: T13) hnm tyX11 tyX11_ok nmX11 hin_X11 rfl rfl (by decide) (show Cond.fieldLink RX11 58 (TX11 25).1 (TX11 25).2.1 (TX11 25).2.2.1 ∈ wsX11_init from List.mem_of_getElem? (i := 22) rfl) rfl rfl rfl rfl (Nat.le_of_ble_eq_true rfl) dX11_init_125 rfl ?_
  refine gq_aload_n hC 0 dX11_init_128 rfl rfl ?_
  subst hT13
  subst hT12
  subst hT11
  subst hT10
  subst hT9
  subst hT8
  subst hT7
  subst hT6
  subst hT5
  subst hT4
  subst hT3
  subst hT2
  subst hT1
  refine gq_wld ((q, .inr (11, [.ref q1, .ref q2, .ref q3, .int 0, .int 0, .ref q4, .int 0, .int 0, .int 0, .int 0, .int 0, .int 0, .int 0, .int (-1), .long 0, .ref q5, .ref q6, .ref q7, .ref q8, .ref q9, .int (-1), .int (-1), .ref q10, .ref q11, .ref q12, .ref q13, .int 0])) :: [(q1, .inl (cJ, 499, .inr (.inl (fun _ => 0)))), (q2, .inl (cJ, 499, .inr (.inl (fun _ => 0)))), (q3, .inl (cJ, 3992, .inr (.inl (fun _ => 0)))), (q4, .inl (cI, 900, .inl (fun _ => 0))), (q5, .inl (cI, 33, .inl (fun _ => 0))), (q6, .inl (cI, 33, .inl (fun _ => 0))), (q7, .inl (cI, 33, .inl (fun _ => 0))), (q8, .inl (cI, 32, .inl (fun _ => 0))), (q9, .inl (cJ, 33, .inr (.inl (fun _ => 0)))), (q10, .inl (cI, 160, .inl (fun _ => 0))), (q11, .inl (cI, 5, .inl (fun _ => 0))), (q12, .inl (cZ, 32, .inl (fun _ => 0))), (q13, .inl (cI, 1200, .inl (fun _ => 0)))]) (by simp only [List.nil_append, List.cons_append]) ?_
  refine gq_callVv hC [0, 2] ((q, .inr (11, [.ref q1, .ref q2, .ref q3, .int 0, .int 0, .ref q4, .int 0, .int 0, .int 0, .int 0, .int 0, .int 0, .int 0, .int (-1), .long 0, .ref q5, .ref q6, .ref q7, .ref q8, .ref q9, .int (-1), .int (-1), .ref q10, .ref q11, .ref q12, .ref q13, .int 0])) :: [(q1, .inl (cJ, 499, .inr (.inl (fun _ => 0)))), (q2, .inl (cJ, 499, .inr (.inl fr))), (q3, .inl (cJ, 3992, .inr (.inl (fun _ => 0)))), (q4, .inl (cI, 900, .inl (fun _ => 0))), (q5, .inl (cI, 33, .inl (fun _ => 0))), (q6, .inl (cI, 33, .inl (fun _ => 0))), (q7, .inl (cI, 33, .inl (fun _ => 0))), (q8, .inl (cI, 32, .inl (fun _ => 0))), (q9, .inl (cJ, 33, .inr (.inl (fun _ => 0)))), (q10, .inl (cI, 160, .inl (fun _ => 0))), (q11, .inl (cI, 5, .inl (fun _ => 0))), (q12, .inl (cZ, 32, .inl (fun _ => 0))), (q13, .inl (cI, 1200, .inl (fun _ => 0)))]) [] [] (k_X11_begins l D cI cJ cZ cO z q q2 q1 q3 q4 q5 q6 q7 q8 q9 q10 q11 q12 q13 (0) (0) (0) (0) (0) (0) (0) (0) (0) ((-1)) (0) ((-1)) ((-1)) (0) (fun _ => 0) fr f1) gX11_init_X11_begins rfl ⟨rfl, rfl⟩ hy_X11_begins ⟨Nat.le_of_ble_eq_true rfl, Nat.le_of_ble_eq_true rfl⟩ rfl rfl rfl (q0 := 0) rfl rfl rfl (Nat.le_of_ble_eq_true rfl) rfl dX11_init_129 rfl rfl ?_
  refine gq_aload_n hC 0 dX11_init_132 rfl rfl ?_
  refine gq_callVv hC [0, 1, 2] ((q, .inr (11, [.ref q1, .ref q2, .ref q3, .int 0, .int 0, .ref q4, .int 0, .int 0, .int 0, .int 0, .int 0, .int 0, .int 0, .int (-1), .long 0, .ref q5, .ref q6, .ref q7, .ref q8, .ref q9, .int (-1), .int (-1), .ref q10, .ref q11, .ref q12, .ref q13, .int 0])) :: [(q1, .inl (cJ, 499, .inr (.inl ar))), (q2, .inl (cJ, 499, .inr (.inl fr))), (q3, .inl (cJ, 3992, .inr (.inl (fun _ => 0)))), (q4, .inl (cI, 900, .inl (fun _ => 0))), (q5, .inl (cI, 33, .inl (fun _ => 0))), (q6, .inl (cI, 33, .inl (fun _ => 0))), (q7, .inl (cI, 33, .inl (fun _ => 0))), (q8, .inl (cI, 32, .inl (fun _ => 0))), (q9, .inl (cJ, 33, .inr (.inl (fun _ => 0)))), (q10, .inl (cI, 160, .inl (fun _ => 0))), (q11, .inl (cI, 5, .inl (fun _ => 0))), (q12, .inl (cZ, 32, .inl (fun _ => 0))), (q13, .inl (cI, 1200, .inl (fun _ => 0)))]) [] [] (k_X11_becomes l D cI cJ cZ cO z q q1 q2 q3 q4 q5 q6 q7 q8 q9 q10 q11 q12 q13 (0) (0) (0) (0) (0) (0) (0) (0) (0) ((-1)) (0) ((-1)) ((-1)) (0) (fun _ => 0) fr ar g1) gX11_init_X11_becomes rfl ⟨rfl, rfl⟩ hy_X11_becomes ⟨Nat.le_of_ble_eq_true rfl, Nat.le_of_ble_eq_true rfl⟩ rfl rfl rfl (q0 := 0) rfl rfl rfl (Nat.le_of_ble_eq_true rfl) rfl dX11_init_133 rfl rfl ?_
  exact gq_cret hC (Nat.le_of_ble_eq_true rfl) (Nat.le_of_ble_eq_true rfl) ⟨q1, q2, q3, q4, q5, q6, q7, q8, q9, q10, q11, q12, q13, fr, ar, g2, rfl⟩ dX11_init_136
