def PX9 (cI cJ cZ cO : ClassId) (q : Nat) (W : va_W) : Prop := ∃ q1 q2 q3 q4 q5 q6 : Nat, W = [(q, .inr (9, [.int 0, .int 0, .ref q1, .ref q2, .ref q3, .ref q4, .ref q5, .ref q6])), (q1, .inl (cI, 32, .inl (fun _ => 0))), (q2, .inl (cI, 32, .inl (fun _ => 0))), (q3, .inl (cI, 32, .inl (fun _ => 0))), (q4, .inl (cI, 32, .inl (fun _ => 0))), (q5, .inl (cI, 256, .inl (fun _ => 0))), (q6, .inl (cJ, 24, .inr (.inl (fun _ => 0))))]
set_option maxHeartbeats 4000000 in
set_option maxRecDepth 100000 in
theorem kc_X9 (l : Launch) (D : va_G) (cI cJ cZ cO : ClassId) (z : Nat → Nat) (q : Nat) : Cv l yX9_init wsX9_init (rmC 1 6 408) D (gq_ty cI cJ cZ cO) cI z [.ref q] [(q, .inr (9, [.int 0, .int 0, .null, .null, .null, .null, .null, .null]))] (PX9 cI cJ cZ cO q) 6 408 := by
  refine Cv.of (cc := cX9_init) (maxL := 1) (by decide) rfl rfl (Nat.le_of_ble_eq_true rfl) ?_
  intro p e s m args below meth c A hC hN hnm
  have hin_X9 : ∀ w ∈ wsX90, w ∈ wsX9_init := fun w h => List.mem_cons_of_mem _ (List.mem_append_right _ h)
  refine gq_loc [(0, .ref q)] rfl ?_
  refine gq_aload_n hC 0 dX9_init_0 rfl rfl ?_
  refine gq_oinit hC (List.mem_of_getElem? (i := 1) rfl) (List.mem_of_getElem? (i := 2) rfl) (List.mem_of_getElem? (i := 3) rfl) dX9_init_1 ⟨Nat.le_of_ble_eq_true rfl, Nat.le_of_ble_eq_true rfl⟩ ?_
  refine gq_aload_n hC 0 dX9_init_4 rfl rfl ?_
  refine gq_bipush hC 32 dX9_init_5 (by decide) ?_
  refine gq_newI hC (N := 32) (t0 := 0) (List.mem_of_getElem? (i := 4) rfl) rfl (by decide) (by decide) (by decide) ⟨Nat.le_of_ble_eq_true rfl, Nat.le_of_ble_eq_true rfl⟩ dX9_init_7 (fun q1 => ?_)
  have hC := gq_at (k' := 1) (n' := 32) hC ⟨Nat.le_of_ble_eq_true rfl, Nat.le_of_ble_eq_true rfl⟩
  refine gq_wld ((q, .inr (9, [.int 0, .int 0, .null, .null, .null, .null, .null, .null])) :: ([] ++ [(q1, .inl (cI, 32, .inl (fun _ => 0)))])) rfl ?_
  refine gq_putF hC (kf := 2) 0 ((q, .inr (9, [.int 0, .int 0, .ref q1, .null, .null, .null, .null, .null])) :: ([] ++ [(q1, .inl (cI, 32, .inl (fun _ => 0)))])) hnm tyX9 tyX9_ok nmX9 hin_X9 rfl rfl (by decide) (show Cond.fieldLink RX9 9 (TX9 2).1 (TX9 2).2.1 (TX9 2).2.2.1 ∈ wsX9_init from List.mem_of_getElem? (i := 5) rfl) rfl rfl rfl rfl (Nat.le_of_ble_eq_true rfl) dX9_init_9 rfl ?_
  refine gq_aload_n hC 0 dX9_init_12 rfl rfl ?_
  refine gq_bipush hC 32 dX9_init_13 (by decide) ?_
  refine gq_newI hC (N := 32) (t0 := 0) (List.mem_of_getElem? (i := 4) rfl) rfl (by decide) (by decide) (by decide) ⟨Nat.le_of_ble_eq_true rfl, Nat.le_of_ble_eq_true rfl⟩ dX9_init_15 (fun q2 => ?_)
  have hC := gq_at (k' := 2) (n' := 64) hC ⟨Nat.le_of_ble_eq_true rfl, Nat.le_of_ble_eq_true rfl⟩
  refine gq_wld ((q, .inr (9, [.int 0, .int 0, .ref q1, .null, .null, .null, .null, .null])) :: (([] ++ [(q1, .inl (cI, 32, .inl (fun _ => 0)))]) ++ [(q2, .inl (cI, 32, .inl (fun _ => 0)))])) rfl ?_
  refine gq_putF hC (kf := 3) 0 ((q, .inr (9, [.int 0, .int 0, .ref q1, .ref q2, .null, .null, .null, .null])) :: (([] ++ [(q1, .inl (cI, 32, .inl (fun _ => 0)))]) ++ [(q2, .inl (cI, 32, .inl (fun _ => 0)))])) hnm tyX9 tyX9_ok nmX9 hin_X9 rfl rfl (by decide) (show Cond.fieldLink RX9 15 (TX9 3).1 (TX9 3).2.1 (TX9 3).2.2.1 ∈ wsX9_init from List.mem_of_getElem? (i := 6) rfl) rfl rfl rfl rfl (Nat.le_of_ble_eq_true rfl) dX9_init_17 rfl ?_
  refine gq_aload_n hC 0 dX9_init_20 rfl rfl ?_
  refine gq_bipush hC 32 dX9_init_21 (by decide) ?_
  refine gq_newI hC (N := 32) (t0 := 0) (List.mem_of_getElem? (i := 4) rfl) rfl (by decide) (by decide) (by decide) ⟨Nat.le_of_ble_eq_true rfl, Nat.le_of_ble_eq_true rfl⟩ dX9_init_23 (fun q3 => ?_)
  have hC := gq_at (k' := 3) (n' := 96) hC ⟨Nat.le_of_ble_eq_true rfl, Nat.le_of_ble_eq_true rfl⟩
  refine gq_wld ((q, .inr (9, [.int 0, .int 0, .ref q1, .ref q2, .null, .null, .null, .null])) :: ((([] ++ [(q1, .inl (cI, 32, .inl (fun _ => 0)))]) ++ [(q2, .inl (cI, 32, .inl (fun _ => 0)))]) ++ [(q3, .inl (cI, 32, .inl (fun _ => 0)))])) rfl ?_
  refine gq_putF hC (kf := 4) 0 ((q, .inr (9, [.int 0, .int 0, .ref q1, .ref q2, .ref q3, .null, .null, .null])) :: ((([] ++ [(q1, .inl (cI, 32, .inl (fun _ => 0)))]) ++ [(q2, .inl (cI, 32, .inl (fun _ => 0)))]) ++ [(q3, .inl (cI, 32, .inl (fun _ => 0)))])) hnm tyX9 tyX9_ok nmX9 hin_X9 rfl rfl (by decide) (show Cond.fieldLink RX9 18 (TX9 4).1 (TX9 4).2.1 (TX9 4).2.2.1 ∈ wsX9_init from List.mem_of_getElem? (i := 7) rfl) rfl rfl rfl rfl (Nat.le_of_ble_eq_true rfl) dX9_init_25 rfl ?_
  refine gq_aload_n hC 0 dX9_init_28 rfl rfl ?_
  refine gq_bipush hC 32 dX9_init_29 (by decide) ?_
  refine gq_newI hC (N := 32) (t0 := 0) (List.mem_of_getElem? (i := 4) rfl) rfl (by decide) (by decide) (by decide) ⟨Nat.le_of_ble_eq_true rfl, Nat.le_of_ble_eq_true rfl⟩ dX9_init_31 (fun q4 => ?_)
  have hC := gq_at (k' := 4) (n' := 128) hC ⟨Nat.le_of_ble_eq_true rfl, Nat.le_of_ble_eq_true rfl⟩
  refine gq_wld ((q, .inr (9, [.int 0, .int 0, .ref q1, .ref q2, .ref q3, .null, .null, .null])) :: (((([] ++ [(q1, .inl (cI, 32, .inl (fun _ => 0)))]) ++ [(q2, .inl (cI, 32, .inl (fun _ => 0)))]) ++ [(q3, .inl (cI, 32, .inl (fun _ => 0)))]) ++ [(q4, .inl (cI, 32, .inl (fun _ => 0)))])) rfl ?_
  refine gq_putF hC (kf := 5) 0 ((q, .inr (9, [.int 0, .int 0, .ref q1, .ref q2, .ref q3, .ref q4, .null, .null])) :: (((([] ++ [(q1, .inl (cI, 32, .inl (fun _ => 0)))]) ++ [(q2, .inl (cI, 32, .inl (fun _ => 0)))]) ++ [(q3, .inl (cI, 32, .inl (fun _ => 0)))]) ++ [(q4, .inl (cI, 32, .inl (fun _ => 0)))])) hnm tyX9 tyX9_ok nmX9 hin_X9 rfl rfl (by decide) (show Cond.fieldLink RX9 21 (TX9 5).1 (TX9 5).2.1 (TX9 5).2.2.1 ∈ wsX9_init from List.mem_of_getElem? (i := 8) rfl) rfl rfl rfl rfl (Nat.le_of_ble_eq_true rfl) dX9_init_33 rfl ?_
  refine gq_aload_n hC 0 dX9_init_36 rfl rfl ?_
  refine gq_sipush hC 256 dX9_init_37 (by decide) ?_
  refine gq_newI hC (N := 256) (t0 := 0) (List.mem_of_getElem? (i := 4) rfl) rfl (by decide) (by decide) (by decide) ⟨Nat.le_of_ble_eq_true rfl, Nat.le_of_ble_eq_true rfl⟩ dX9_init_40 (fun q5 => ?_)
  have hC := gq_at (k' := 5) (n' := 384) hC ⟨Nat.le_of_ble_eq_true rfl, Nat.le_of_ble_eq_true rfl⟩
  refine gq_wld ((q, .inr (9, [.int 0, .int 0, .ref q1, .ref q2, .ref q3, .ref q4, .null, .null])) :: ((((([] ++ [(q1, .inl (cI, 32, .inl (fun _ => 0)))]) ++ [(q2, .inl (cI, 32, .inl (fun _ => 0)))]) ++ [(q3, .inl (cI, 32, .inl (fun _ => 0)))]) ++ [(q4, .inl (cI, 32, .inl (fun _ => 0)))]) ++ [(q5, .inl (cI, 256, .inl (fun _ => 0)))])) rfl ?_
  refine gq_putF hC (kf := 6) 0 ((q, .inr (9, [.int 0, .int 0, .ref q1, .ref q2, .ref q3, .ref q4, .ref q5, .null])) :: ((((([] ++ [(q1, .inl (cI, 32, .inl (fun _ => 0)))]) ++ [(q2, .inl (cI, 32, .inl (fun _ => 0)))]) ++ [(q3, .inl (cI, 32, .inl (fun _ => 0)))]) ++ [(q4, .inl (cI, 32, .inl (fun _ => 0)))]) ++ [(q5, .inl (cI, 256, .inl (fun _ => 0)))])) hnm tyX9 tyX9_ok nmX9 hin_X9 rfl rfl (by decide) (show Cond.fieldLink RX9 24 (TX9 6).1 (TX9 6).2.1 (TX9 6).2.2.1 ∈ wsX9_init from List.mem_of_getElem? (i := 9) rfl) rfl rfl rfl rfl (Nat.le_of_ble_eq_true rfl) dX9_init_42 rfl ?_
  refine gq_aload_n hC 0 dX9_init_45 rfl rfl ?_
  refine gq_bipush hC 24 dX9_init_46 (by decide) ?_
  refine gq_newJ hC (N := 24) (t0 := 1) (List.mem_of_getElem? (i := 10) rfl) rfl (by decide) (by decide) (by decide) ⟨Nat.le_of_ble_eq_true rfl, Nat.le_of_ble_eq_true rfl⟩ dX9_init_48 (fun q6 => ?_)
  have hC := gq_at (k' := 6) (n' := 408) hC ⟨Nat.le_of_ble_eq_true rfl, Nat.le_of_ble_eq_true rfl⟩
  refine gq_wld ((q, .inr (9, [.int 0, .int 0, .ref q1, .ref q2, .ref q3, .ref q4, .ref q5, .null])) :: (((((([] ++ [(q1, .inl (cI, 32, .inl (fun _ => 0)))]) ++ [(q2, .inl (cI, 32, .inl (fun _ => 0)))]) ++ [(q3, .inl (cI, 32, .inl (fun _ => 0)))]) ++ [(q4, .inl (cI, 32, .inl (fun _ => 0)))]) ++ [(q5, .inl (cI, 256, .inl (fun _ => 0)))]) ++ [(q6, .inl (cJ, 24, .inr (.inl (fun _ => 0))))])) rfl ?_
  refine gq_putF hC (kf := 7) 0 ((q, .inr (9, [.int 0, .int 0, .ref q1, .ref q2, .ref q3, .ref q4, .ref q5, .ref q6])) :: (((((([] ++ [(q1, .inl (cI, 32, .inl (fun _ => 0)))]) ++ [(q2, .inl (cI, 32, .inl (fun _ => 0)))]) ++ [(q3, .inl (cI, 32, .inl (fun _ => 0)))]) ++ [(q4, .inl (cI, 32, .inl (fun _ => 0)))]) ++ [(q5, .inl (cI, 256, .inl (fun _ => 0)))]) ++ [(q6, .inl (cJ, 24, .inr (.inl (fun _ => 0))))])) hnm tyX9 tyX9_ok nmX9 hin_X9 rfl rfl (by decide) (show Cond.fieldLink RX9 27 (TX9 7).1 (TX9 7).2.1 (TX9 7).2.2.1 ∈ wsX9_init from List.mem_of_getElem? (i := 11) rfl) rfl rfl rfl rfl (Nat.le_of_ble_eq_true rfl) dX9_init_50 rfl ?_
  exact gq_cret hC (Nat.le_of_ble_eq_true rfl) (Nat.le_of_ble_eq_true rfl) ⟨q1, q2, q3, q4, q5, q6, rfl⟩ dX9_init_53
