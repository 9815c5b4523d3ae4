def PX8 (cI cJ cZ cO : ClassId) (q : Nat) (W : va_W) : Prop := ∃ q1 q2 : Nat, W = [(q, .inr (8, [.ref q1, .ref q2])), (q1, .inl (cI, 24, .inl (fun _ => 0))), (q2, .inl (cI, 768, .inl (fun _ => 0)))]
set_option maxHeartbeats 4000000 in
set_option maxRecDepth 100000 in
theorem kc_X8 (l : Launch) (D : va_G) (cI cJ cZ cO : ClassId) (z : Nat → Nat) (q : Nat) : Cv l yX8_init wsX8_init (rmC 1 2 792) D (gq_ty cI cJ cZ cO) cI z [.ref q] [(q, .inr (8, [.null, .null]))] (PX8 cI cJ cZ cO q) 2 792 := by
  refine Cv.of (cc := cX8_init) (maxL := 1) (by decide) rfl rfl (Nat.le_of_ble_eq_true rfl) ?_
  intro p e s m args below meth c A hC hN hnm
  have hin_X8 : ∀ w ∈ wsX80, w ∈ wsX8_init := fun w h => List.mem_cons_of_mem _ (List.mem_append_right _ h)
  refine gq_loc [(0, .ref q)] rfl ?_
  refine gq_aload_n hC 0 dX8_init_0 rfl rfl ?_
  refine gq_oinit hC (List.mem_of_getElem? (i := 1) rfl) (List.mem_of_getElem? (i := 2) rfl) (List.mem_of_getElem? (i := 3) rfl) dX8_init_1 ⟨Nat.le_of_ble_eq_true rfl, Nat.le_of_ble_eq_true rfl⟩ ?_
  refine gq_aload_n hC 0 dX8_init_4 rfl rfl ?_
  refine gq_bipush hC 24 dX8_init_5 (by decide) ?_
  refine gq_newI hC (N := 24) (t0 := 0) (List.mem_of_getElem? (i := 4) rfl) rfl (by decide) (by decide) (by decide) ⟨Nat.le_of_ble_eq_true rfl, Nat.le_of_ble_eq_true rfl⟩ dX8_init_7 (fun q1 => ?_)
  have hC := gq_at (k' := 1) (n' := 24) hC ⟨Nat.le_of_ble_eq_true rfl, Nat.le_of_ble_eq_true rfl⟩
  refine gq_wld ((q, .inr (8, [.null, .null])) :: ([] ++ [(q1, .inl (cI, 24, .inl (fun _ => 0)))])) rfl ?_
  refine gq_putF hC (kf := 0) 0 ((q, .inr (8, [.ref q1, .null])) :: ([] ++ [(q1, .inl (cI, 24, .inl (fun _ => 0)))])) hnm tyX8 tyX8_ok nmX8 hin_X8 rfl rfl (by decide) (show Cond.fieldLink RX8 9 (TX8 0).1 (TX8 0).2.1 (TX8 0).2.2.1 ∈ wsX8_init from List.mem_of_getElem? (i := 5) rfl) rfl rfl rfl rfl (Nat.le_of_ble_eq_true rfl) dX8_init_9 rfl ?_
  refine gq_aload_n hC 0 dX8_init_12 rfl rfl ?_
  refine gq_sipush hC 768 dX8_init_13 (by decide) ?_
  refine gq_newI hC (N := 768) (t0 := 0) (List.mem_of_getElem? (i := 4) rfl) rfl (by decide) (by decide) (by decide) ⟨Nat.le_of_ble_eq_true rfl, Nat.le_of_ble_eq_true rfl⟩ dX8_init_16 (fun q2 => ?_)
  have hC := gq_at (k' := 2) (n' := 792) hC ⟨Nat.le_of_ble_eq_true rfl, Nat.le_of_ble_eq_true rfl⟩
  refine gq_wld ((q, .inr (8, [.ref q1, .null])) :: (([] ++ [(q1, .inl (cI, 24, .inl (fun _ => 0)))]) ++ [(q2, .inl (cI, 768, .inl (fun _ => 0)))])) rfl ?_
  refine gq_putF hC (kf := 1) 0 ((q, .inr (8, [.ref q1, .ref q2])) :: (([] ++ [(q1, .inl (cI, 24, .inl (fun _ => 0)))]) ++ [(q2, .inl (cI, 768, .inl (fun _ => 0)))])) hnm tyX8 tyX8_ok nmX8 hin_X8 rfl rfl (by decide) (show Cond.fieldLink RX8 15 (TX8 1).1 (TX8 1).2.1 (TX8 1).2.2.1 ∈ wsX8_init from List.mem_of_getElem? (i := 6) rfl) rfl rfl rfl rfl (Nat.le_of_ble_eq_true rfl) dX8_init_18 rfl ?_
  exact gq_cret hC (Nat.le_of_ble_eq_true rfl) (Nat.le_of_ble_eq_true rfl) ⟨q1, q2, rfl⟩ dX8_init_21
