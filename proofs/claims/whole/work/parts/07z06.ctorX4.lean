def PX4 (cI cJ cZ cO : ClassId) (q : Nat) (W : va_W) : Prop := ∃ q1 q2 q3 q4 : Nat, W = [(q, .inr (4, [.int 0, .ref q1, .ref q2, .ref q3, .ref q4, .int 0])), (q1, .inl (cI, 5, .inl (fun _ => 0))), (q2, .inl (cI, 155, .inl (fun _ => 0))), (q3, .inl (cI, 31, .inl (fun _ => 0))), (q4, .inl (cZ, 31, .inl (fun _ => 0)))]
set_option maxHeartbeats 4000000 in
set_option maxRecDepth 100000 in
theorem kc_X4 (l : Launch) (D : va_G) (cI cJ cZ cO : ClassId) (z : Nat → Nat) (q : Nat) : Cv l yX4_init wsX4_init (rmC 1 4 222) D (gq_ty cI cJ cZ cO) cI z [.ref q] [(q, .inr (4, [.int 0, .null, .null, .null, .null, .int 0]))] (PX4 cI cJ cZ cO q) 4 222 := by
  refine Cv.of (cc := cX4_init) (maxL := 1) (by decide) rfl rfl (Nat.le_of_ble_eq_true rfl) ?_
  intro p e s m args below meth c A hC hN hnm
  have hin_X4 : ∀ w ∈ wsX40, w ∈ wsX4_init := fun w h => List.mem_cons_of_mem _ (List.mem_append_right _ h)
  refine gq_loc [(0, .ref q)] rfl ?_
  refine gq_aload_n hC 0 dX4_init_0 rfl rfl ?_
  refine gq_oinit hC (List.mem_of_getElem? (i := 1) rfl) (List.mem_of_getElem? (i := 2) rfl) (List.mem_of_getElem? (i := 3) rfl) dX4_init_1 ⟨Nat.le_of_ble_eq_true rfl, Nat.le_of_ble_eq_true rfl⟩ ?_
  refine gq_aload_n hC 0 dX4_init_4 rfl rfl ?_
  refine gq_iconst hC 5 dX4_init_5 (by decide) ?_
  refine gq_newI hC (N := 5) (t0 := 0) (List.mem_of_getElem? (i := 4) rfl) rfl (by decide) (by decide) (by decide) ⟨Nat.le_of_ble_eq_true rfl, Nat.le_of_ble_eq_true rfl⟩ dX4_init_6 (fun q1 => ?_)
  have hC := gq_at (k' := 1) (n' := 5) hC ⟨Nat.le_of_ble_eq_true rfl, Nat.le_of_ble_eq_true rfl⟩
  refine gq_wld ((q, .inr (4, [.int 0, .null, .null, .null, .null, .int 0])) :: ([] ++ [(q1, .inl (cI, 5, .inl (fun _ => 0)))])) rfl ?_
  refine gq_putF hC (kf := 1) 0 ((q, .inr (4, [.int 0, .ref q1, .null, .null, .null, .int 0])) :: ([] ++ [(q1, .inl (cI, 5, .inl (fun _ => 0)))])) hnm tyX4 tyX4_ok nmX4 hin_X4 rfl rfl (by decide) (show Cond.fieldLink RX4 9 (TX4 1).1 (TX4 1).2.1 (TX4 1).2.2.1 ∈ wsX4_init from List.mem_of_getElem? (i := 5) rfl) rfl rfl rfl rfl (Nat.le_of_ble_eq_true rfl) dX4_init_8 rfl ?_
  refine gq_aload_n hC 0 dX4_init_11 rfl rfl ?_
  refine gq_sipush hC 155 dX4_init_12 (by decide) ?_
  refine gq_newI hC (N := 155) (t0 := 0) (List.mem_of_getElem? (i := 4) rfl) rfl (by decide) (by decide) (by decide) ⟨Nat.le_of_ble_eq_true rfl, Nat.le_of_ble_eq_true rfl⟩ dX4_init_15 (fun q2 => ?_)
  have hC := gq_at (k' := 2) (n' := 160) hC ⟨Nat.le_of_ble_eq_true rfl, Nat.le_of_ble_eq_true rfl⟩
  refine gq_wld ((q, .inr (4, [.int 0, .ref q1, .null, .null, .null, .int 0])) :: (([] ++ [(q1, .inl (cI, 5, .inl (fun _ => 0)))]) ++ [(q2, .inl (cI, 155, .inl (fun _ => 0)))])) rfl ?_
  refine gq_putF hC (kf := 2) 0 ((q, .inr (4, [.int 0, .ref q1, .ref q2, .null, .null, .int 0])) :: (([] ++ [(q1, .inl (cI, 5, .inl (fun _ => 0)))]) ++ [(q2, .inl (cI, 155, .inl (fun _ => 0)))])) hnm tyX4 tyX4_ok nmX4 hin_X4 rfl rfl (by decide) (show Cond.fieldLink RX4 15 (TX4 2).1 (TX4 2).2.1 (TX4 2).2.2.1 ∈ wsX4_init from List.mem_of_getElem? (i := 6) rfl) rfl rfl rfl rfl (Nat.le_of_ble_eq_true rfl) dX4_init_17 rfl ?_
  refine gq_aload_n hC 0 dX4_init_20 rfl rfl ?_
  refine gq_bipush hC 31 dX4_init_21 (by decide) ?_
  refine gq_newI hC (N := 31) (t0 := 0) (List.mem_of_getElem? (i := 4) rfl) rfl (by decide) (by decide) (by decide) ⟨Nat.le_of_ble_eq_true rfl, Nat.le_of_ble_eq_true rfl⟩ dX4_init_23 (fun q3 => ?_)
  have hC := gq_at (k' := 3) (n' := 191) hC ⟨Nat.le_of_ble_eq_true rfl, Nat.le_of_ble_eq_true rfl⟩
  refine gq_wld ((q, .inr (4, [.int 0, .ref q1, .ref q2, .null, .null, .int 0])) :: ((([] ++ [(q1, .inl (cI, 5, .inl (fun _ => 0)))]) ++ [(q2, .inl (cI, 155, .inl (fun _ => 0)))]) ++ [(q3, .inl (cI, 31, .inl (fun _ => 0)))])) rfl ?_
  refine gq_putF hC (kf := 3) 0 ((q, .inr (4, [.int 0, .ref q1, .ref q2, .ref q3, .null, .int 0])) :: ((([] ++ [(q1, .inl (cI, 5, .inl (fun _ => 0)))]) ++ [(q2, .inl (cI, 155, .inl (fun _ => 0)))]) ++ [(q3, .inl (cI, 31, .inl (fun _ => 0)))])) hnm tyX4 tyX4_ok nmX4 hin_X4 rfl rfl (by decide) (show Cond.fieldLink RX4 18 (TX4 3).1 (TX4 3).2.1 (TX4 3).2.2.1 ∈ wsX4_init from List.mem_of_getElem? (i := 7) rfl) rfl rfl rfl rfl (Nat.le_of_ble_eq_true rfl) dX4_init_25 rfl ?_
  refine gq_aload_n hC 0 dX4_init_28 rfl rfl ?_
  refine gq_bipush hC 31 dX4_init_29 (by decide) ?_
  refine gq_newZ hC (N := 31) (t0 := 2) (List.mem_of_getElem? (i := 8) rfl) rfl (by decide) (by decide) (by decide) ⟨Nat.le_of_ble_eq_true rfl, Nat.le_of_ble_eq_true rfl⟩ dX4_init_31 (fun q4 => ?_)
  have hC := gq_at (k' := 4) (n' := 222) hC ⟨Nat.le_of_ble_eq_true rfl, Nat.le_of_ble_eq_true rfl⟩
  refine gq_wld ((q, .inr (4, [.int 0, .ref q1, .ref q2, .ref q3, .null, .int 0])) :: (((([] ++ [(q1, .inl (cI, 5, .inl (fun _ => 0)))]) ++ [(q2, .inl (cI, 155, .inl (fun _ => 0)))]) ++ [(q3, .inl (cI, 31, .inl (fun _ => 0)))]) ++ [(q4, .inl (cZ, 31, .inl (fun _ => 0)))])) rfl ?_
  refine gq_putF hC (kf := 4) 0 ((q, .inr (4, [.int 0, .ref q1, .ref q2, .ref q3, .ref q4, .int 0])) :: (((([] ++ [(q1, .inl (cI, 5, .inl (fun _ => 0)))]) ++ [(q2, .inl (cI, 155, .inl (fun _ => 0)))]) ++ [(q3, .inl (cI, 31, .inl (fun _ => 0)))]) ++ [(q4, .inl (cZ, 31, .inl (fun _ => 0)))])) hnm tyX4 tyX4_ok nmX4 hin_X4 rfl rfl (by decide) (show Cond.fieldLink RX4 21 (TX4 4).1 (TX4 4).2.1 (TX4 4).2.2.1 ∈ wsX4_init from List.mem_of_getElem? (i := 9) rfl) rfl rfl rfl rfl (Nat.le_of_ble_eq_true rfl) dX4_init_33 rfl ?_
  exact gq_cret hC (Nat.le_of_ble_eq_true rfl) (Nat.le_of_ble_eq_true rfl) ⟨q1, q2, q3, q4, rfl⟩ dX4_init_36
