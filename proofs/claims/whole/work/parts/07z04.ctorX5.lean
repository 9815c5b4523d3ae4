def PX5 (cI cJ cZ cO : ClassId) (q : Nat) (W : va_W) : Prop := ∃ (a : Nat → Nat) (t : Nat), W = (q, .inr (5, [.int 0, .int 0, .int (-1), .ref (a 0), .ref t, .int 0, .int 0])) :: (gq_shw cI cJ a gq_S0 ++ [(t, .inl (cI, 900, .inl (fun _ => 0)))])
set_option maxHeartbeats 4000000 in
set_option maxRecDepth 100000 in
theorem kc_X5 (l : Launch) (D : va_G) (cI cJ cZ cO : ClassId) (z : Nat → Nat) (q : Nat) : Cv l yX5_init wsX5_init (rmC 3 18 1447) D (gq_ty cI cJ cZ cO) cI z [.ref q] [(q, .inr (5, [.int 0, .int 0, .int 0, .null, .null, .int 0, .int 0]))] (PX5 cI cJ cZ cO q) 18 1447 := by
  refine Cv.of (cc := cX5_init) (maxL := 1) (by decide) rfl rfl (Nat.le_of_ble_eq_true rfl) ?_
  intro p e s m args below meth c A hC hN hnm
  have hin_X5 : ∀ w ∈ wsX50, w ∈ wsX5_init := fun w h => List.mem_cons_of_mem _ (List.mem_append_left _ (List.mem_append_left _ (List.mem_append_left _ (List.mem_append_left _ (List.mem_append_right _ h)))))
  refine gq_loc [(0, .ref q)] rfl ?_
  refine gq_aload_n hC 0 dX5_init_0 rfl rfl ?_
  refine gq_oinit hC (List.mem_of_getElem? (i := 1) rfl) (List.mem_of_getElem? (i := 2) rfl) (List.mem_of_getElem? (i := 3) rfl) dX5_init_1 ⟨Nat.le_of_ble_eq_true rfl, Nat.le_of_ble_eq_true rfl⟩ ?_
  refine gq_aload_n hC 0 dX5_init_4 rfl rfl ?_
  refine gq_iconst hC (-1) dX5_init_5 (by decide) ?_
  refine gq_put1 hC (kf := 2) 0 ((q, .inr (5, [.int 0, .int 0, .int (-1), .null, .null, .int 0, .int 0])) :: []) tyX5 tyX5_ok nmX5 hin_X5 rfl rfl (by decide) (show Cond.fieldLink RX5 9 (TX5 2).1 (TX5 2).2.1 (TX5 2).2.2.1 ∈ wsX5_init from List.mem_of_getElem? (i := 4) rfl) rfl rfl rfl (Nat.le_of_ble_eq_true rfl) dX5_init_6 rfl ?_
  refine gq_aload_n hC 0 dX5_init_9 rfl rfl ?_
  refine gq_newC hC hN (ci := 6) tyX6 (fun w h => List.mem_cons_of_mem _ (List.mem_append_left _ (List.mem_append_left _ (List.mem_append_left _ (List.mem_append_right _ h))))) tyX6_ok rfl (fun j hj => by rcases (show j = 0 ∨ j = 1 ∨ j = 2 ∨ j = 3 by omega) with rfl | rfl | rfl | rfl <;> rfl) ⟨(List.mem_of_getElem? (i := 5) rfl), (List.mem_of_getElem? (i := 6) rfl), (List.mem_of_getElem? (i := 7) rfl)⟩ (fun q9 => kc_X6 l D cI cJ cZ cO z q9) gX5_init_X6_init_n17 rfl ⟨rfl, rfl⟩ ⟨rfl, rfl⟩ (by decide +kernel) (List.mem_of_getElem? (i := 11) rfl) (Or.inl (hN.1 (RX5, 17, yX6_init) (by simp [gq_nl]))) ⟨Nat.le_of_ble_eq_true rfl, Nat.le_of_ble_eq_true rfl⟩ ⟨Nat.le_of_ble_eq_true rfl, Nat.le_of_ble_eq_true rfl⟩ (Nat.le_of_ble_eq_true rfl) dX5_init_10 dX5_init_13 dX5_init_14 (fun q1 W9 h9 => ?_)
  have hC := gq_at (k' := 17) (n' := 547) hC ⟨Nat.le_of_ble_eq_true rfl, Nat.le_of_ble_eq_true rfl⟩
  obtain ⟨a1, a1e, rfl⟩ := h9
  subst a1e
  refine gq_wld ((q, .inr (5, [.int 0, .int 0, .int (-1), .null, .null, .int 0, .int 0])) :: ([] ++ gq_shw cI cJ a1 gq_S0)) rfl ?_
  refine gq_putF hC (kf := 3) 0 ((q, .inr (5, [.int 0, .int 0, .int (-1), .ref (a1 0), .null, .int 0, .int 0])) :: ([] ++ gq_shw cI cJ a1 gq_S0)) hnm tyX5 tyX5_ok nmX5 hin_X5 rfl rfl (by decide) (show Cond.fieldLink RX5 18 (TX5 3).1 (TX5 3).2.1 (TX5 3).2.2.1 ∈ wsX5_init from List.mem_of_getElem? (i := 8) rfl) rfl rfl rfl rfl (Nat.le_of_ble_eq_true rfl) dX5_init_17 rfl ?_
  refine gq_aload_n hC 0 dX5_init_20 rfl rfl ?_
  refine gq_sipush hC 900 dX5_init_21 (by decide) ?_
  refine gq_newI hC (N := 900) (t0 := 0) (List.mem_of_getElem? (i := 9) rfl) rfl (by decide) (by decide) (by decide) ⟨Nat.le_of_ble_eq_true rfl, Nat.le_of_ble_eq_true rfl⟩ dX5_init_24 (fun q2 => ?_)
  have hC := gq_at (k' := 18) (n' := 1447) hC ⟨Nat.le_of_ble_eq_true rfl, Nat.le_of_ble_eq_true rfl⟩
  refine gq_wld ((q, .inr (5, [.int 0, .int 0, .int (-1), .ref (a1 0), .null, .int 0, .int 0])) :: (([] ++ gq_shw cI cJ a1 gq_S0) ++ [(q2, .inl (cI, 900, .inl (fun _ => 0)))])) rfl ?_
  refine gq_putF hC (kf := 4) 0 ((q, .inr (5, [.int 0, .int 0, .int (-1), .ref (a1 0), .ref q2, .int 0, .int 0])) :: (([] ++ gq_shw cI cJ a1 gq_S0) ++ [(q2, .inl (cI, 900, .inl (fun _ => 0)))])) hnm tyX5 tyX5_ok nmX5 hin_X5 rfl rfl (by decide) (show Cond.fieldLink RX5 22 (TX5 4).1 (TX5 4).2.1 (TX5 4).2.2.1 ∈ wsX5_init from List.mem_of_getElem? (i := 10) rfl) rfl rfl rfl rfl (Nat.le_of_ble_eq_true rfl) dX5_init_26 rfl ?_
  exact gq_cret hC (Nat.le_of_ble_eq_true rfl) (Nat.le_of_ble_eq_true rfl) ⟨a1, q2, rfl⟩ dX5_init_29
