def PX2 (cI cJ cZ cO : ClassId) (q : Nat) (W : va_W) : Prop := ∃ q1 q2 q3 : Nat, W = [(q, .inr (2, [.int 0, .int 0, .int 0, .ref q1, .ref q2, .ref q3])), (q1, .inl (cI, 32, .inl (fun _ => 0))), (q2, .inl (cI, 32, .inl (fun _ => 0))), (q3, .inl (cI, 32, .inl (fun _ => 0)))]
set_option maxHeartbeats 4000000 in
set_option maxRecDepth 100000 in
theorem kc_X2 (l : Launch) (D : va_G) (cI cJ cZ cO : ClassId) (z : Nat → Nat) (q : Nat) : Cv l yX2_init wsX2_init (rmC 1 3 96) D (gq_ty cI cJ cZ cO) cI z [.ref q] [(q, .inr (2, [.int 0, .int 0, .int 0, .null, .null, .null]))] (PX2 cI cJ cZ cO q) 3 96 := by
  refine Cv.of (cc := cX2_init) (maxL := 1) (by decide) rfl rfl (Nat.le_of_ble_eq_true rfl) ?_
  intro p e s m args below meth c A hC hN hnm
  have hin_X2 : ∀ w ∈ wsX20, w ∈ wsX2_init := fun w h => List.mem_cons_of_mem _ (List.mem_append_right _ h)
  refine gq_loc [(0, .ref q)] rfl ?_
  refine gq_aload_n hC 0 dX2_init_0 rfl rfl ?_
  refine gq_oinit hC (List.mem_of_getElem? (i := 1) rfl) (List.mem_of_getElem? (i := 2) rfl) (List.mem_of_getElem? (i := 3) rfl) dX2_init_1 ⟨Nat.le_of_ble_eq_true rfl, Nat.le_of_ble_eq_true rfl⟩ ?_
  refine gq_aload_n hC 0 dX2_init_4 rfl rfl ?_
  refine gq_bipush hC 32 dX2_init_5 (by decide) ?_
  refine gq_newI hC (N := 32) (t0 := 0) (List.mem_of_getElem? (i := 4) rfl) rfl (by decide) (by decide) (by decide) ⟨Nat.le_of_ble_eq_true rfl, Nat.le_of_ble_eq_true rfl⟩ dX2_init_7 (fun q1 => ?_)
  have hC := gq_at (k' := 1) (n' := 32) hC ⟨Nat.le_of_ble_eq_true rfl, Nat.le_of_ble_eq_true rfl⟩
  refine gq_wld ((q, .inr (2, [.int 0, .int 0, .int 0, .null, .null, .null])) :: ([] ++ [(q1, .inl (cI, 32, .inl (fun _ => 0)))])) rfl ?_
  refine gq_putF hC (kf := 3) 0 ((q, .inr (2, [.int 0, .int 0, .int 0, .ref q1, .null, .null])) :: ([] ++ [(q1, .inl (cI, 32, .inl (fun _ => 0)))])) hnm tyX2 tyX2_ok nmX2 hin_X2 rfl rfl (by decide) (show Cond.fieldLink RX2 9 (TX2 3).1 (TX2 3).2.1 (TX2 3).2.2.1 ∈ wsX2_init from List.mem_of_getElem? (i := 5) rfl) rfl rfl rfl rfl (Nat.le_of_ble_eq_true rfl) dX2_init_9 rfl ?_
  refine gq_aload_n hC 0 dX2_init_12 rfl rfl ?_
  refine gq_bipush hC 32 dX2_init_13 (by decide) ?_
  refine gq_newI hC (N := 32) (t0 := 0) (List.mem_of_getElem? (i := 4) rfl) rfl (by decide) (by decide) (by decide) ⟨Nat.le_of_ble_eq_true rfl, Nat.le_of_ble_eq_true rfl⟩ dX2_init_15 (fun q2 => ?_)
  have hC := gq_at (k' := 2) (n' := 64) hC ⟨Nat.le_of_ble_eq_true rfl, Nat.le_of_ble_eq_true rfl⟩
  refine gq_wld ((q, .inr (2, [.int 0, .int 0, .int 0, .ref q1, .null, .null])) :: (([] ++ [(q1, .inl (cI, 32, .inl (fun _ => 0)))]) ++ [(q2, .inl (cI, 32, .inl (fun _ => 0)))])) rfl ?_
  refine gq_putF hC (kf := 4) 0 ((q, .inr (2, [.int 0, .int 0, .int 0, .ref q1, .ref q2, .null])) :: (([] ++ [(q1, .inl (cI, 32, .inl (fun _ => 0)))]) ++ [(q2, .inl (cI, 32, .inl (fun _ => 0)))])) hnm tyX2 tyX2_ok nmX2 hin_X2 rfl rfl (by decide) (show Cond.fieldLink RX2 15 (TX2 4).1 (TX2 4).2.1 (TX2 4).2.2.1 ∈ wsX2_init from List.mem_of_getElem? (i := 6) rfl) rfl rfl rfl rfl (Nat.le_of_ble_eq_true rfl) dX2_init_17 rfl ?_
  refine gq_aload_n hC 0 dX2_init_20 rfl rfl ?_
  refine gq_bipush hC 32 dX2_init_21 (by decide) ?_
  refine gq_newI hC (N := 32) (t0 := 0) (List.mem_of_getElem? (i := 4) rfl) rfl (by decide) (by decide) (by decide) ⟨Nat.le_of_ble_eq_true rfl, Nat.le_of_ble_eq_true rfl⟩ dX2_init_23 (fun q3 => ?_)
  have hC := gq_at (k' := 3) (n' := 96) hC ⟨Nat.le_of_ble_eq_true rfl, Nat.le_of_ble_eq_true rfl⟩
  refine gq_wld ((q, .inr (2, [.int 0, .int 0, .int 0, .ref q1, .ref q2, .null])) :: ((([] ++ [(q1, .inl (cI, 32, .inl (fun _ => 0)))]) ++ [(q2, .inl (cI, 32, .inl (fun _ => 0)))]) ++ [(q3, .inl (cI, 32, .inl (fun _ => 0)))])) rfl ?_
  refine gq_putF hC (kf := 5) 0 ((q, .inr (2, [.int 0, .int 0, .int 0, .ref q1, .ref q2, .ref q3])) :: ((([] ++ [(q1, .inl (cI, 32, .inl (fun _ => 0)))]) ++ [(q2, .inl (cI, 32, .inl (fun _ => 0)))]) ++ [(q3, .inl (cI, 32, .inl (fun _ => 0)))])) hnm tyX2 tyX2_ok nmX2 hin_X2 rfl rfl (by decide) (show Cond.fieldLink RX2 18 (TX2 5).1 (TX2 5).2.1 (TX2 5).2.2.1 ∈ wsX2_init from List.mem_of_getElem? (i := 7) rfl) rfl rfl rfl rfl (Nat.le_of_ble_eq_true rfl) dX2_init_25 rfl ?_
  exact gq_cret hC (Nat.le_of_ble_eq_true rfl) (Nat.le_of_ble_eq_true rfl) ⟨q1, q2, q3, rfl⟩ dX2_init_28
