def PX3 (cI cJ cZ cO : ClassId) (q : Nat) (W : va_W) : Prop := ∃ q1 : Nat, W = [(q, .inr (3, [.int 0, .ref q1])), (q1, .inl (cI, 1056, .inl (fun _ => 0)))]
set_option maxHeartbeats 4000000 in
set_option maxRecDepth 100000 in
theorem kc_X3 (l : Launch) (D : va_G) (cI cJ cZ cO : ClassId) (z : Nat → Nat) (q : Nat) : Cv l yX3_init wsX3_init (rmC 1 1 1056) D (gq_ty cI cJ cZ cO) cI z [.ref q] [(q, .inr (3, [.int 0, .null]))] (PX3 cI cJ cZ cO q) 1 1056 := by
  refine Cv.of (cc := cX3_init) (maxL := 1) (by decide) rfl rfl (Nat.le_of_ble_eq_true rfl) ?_
  intro p e s m args below meth c A hC hN hnm
  have hin_X3 : ∀ w ∈ wsX30, w ∈ wsX3_init := fun w h => List.mem_cons_of_mem _ (List.mem_append_right _ h)
  refine gq_loc [(0, .ref q)] rfl ?_
  refine gq_aload_n hC 0 dX3_init_0 rfl rfl ?_
  refine gq_oinit hC (List.mem_of_getElem? (i := 1) rfl) (List.mem_of_getElem? (i := 2) rfl) (List.mem_of_getElem? (i := 3) rfl) dX3_init_1 ⟨Nat.le_of_ble_eq_true rfl, Nat.le_of_ble_eq_true rfl⟩ ?_
  refine gq_aload_n hC 0 dX3_init_4 rfl rfl ?_
  refine gq_sipush hC 1056 dX3_init_5 (by decide) ?_
  refine gq_newI hC (N := 1056) (t0 := 0) (List.mem_of_getElem? (i := 4) rfl) rfl (by decide) (by decide) (by decide) ⟨Nat.le_of_ble_eq_true rfl, Nat.le_of_ble_eq_true rfl⟩ dX3_init_8 (fun q1 => ?_)
  have hC := gq_at (k' := 1) (n' := 1056) hC ⟨Nat.le_of_ble_eq_true rfl, Nat.le_of_ble_eq_true rfl⟩
  refine gq_wld ((q, .inr (3, [.int 0, .null])) :: ([] ++ [(q1, .inl (cI, 1056, .inl (fun _ => 0)))])) rfl ?_
  refine gq_putF hC (kf := 1) 0 ((q, .inr (3, [.int 0, .ref q1])) :: ([] ++ [(q1, .inl (cI, 1056, .inl (fun _ => 0)))])) hnm tyX3 tyX3_ok nmX3 hin_X3 rfl rfl (by decide) (show Cond.fieldLink RX3 9 (TX3 1).1 (TX3 1).2.1 (TX3 1).2.2.1 ∈ wsX3_init from List.mem_of_getElem? (i := 5) rfl) rfl rfl rfl rfl (Nat.le_of_ble_eq_true rfl) dX3_init_10 rfl ?_
  exact gq_cret hC (Nat.le_of_ble_eq_true rfl) (Nat.le_of_ble_eq_true rfl) ⟨q1, rfl⟩ dX3_init_13
