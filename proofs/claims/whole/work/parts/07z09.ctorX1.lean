def PX1 (cI cJ cZ cO : ClassId) (q : Nat) (W : va_W) : Prop := ∃ (qa : Nat) (hh : Nat → Nat), W = (q, .inr (1, [.int 0, .int 0, .ref qa])) :: (qa, .inl (cO, 8, .inr (.inr (.inr (.inr (fun j => some (hh (17 * j)))))))) :: gq_hist cI cJ hh (fun _ => gq_S0)
set_option maxHeartbeats 4000000 in
set_option maxRecDepth 100000 in
theorem kc_X1 (l : Launch) (D : va_G) (cI cJ cZ cO : ClassId) (z : Nat → Nat) (q : Nat) : Cv l yX1_init wsX1_init (rmC 3 137 4384) D (gq_ty cI cJ cZ cO) cI z [.ref q] [(q, .inr (1, [.int 0, .int 0, .null]))] (PX1 cI cJ cZ cO q) 137 4384 := by
  refine Cv.of (cc := cX1_init) (maxL := 2) (by decide) rfl rfl (Nat.le_of_ble_eq_true rfl) ?_
  intro p e s m args below meth c A hC hN hnm
  have hin_X1 : ∀ w ∈ wsX10, w ∈ wsX1_init := fun w h => List.mem_cons_of_mem _ (List.mem_append_left _ (List.mem_append_left _ (List.mem_append_left _ (List.mem_append_left _ (List.mem_append_right _ h)))))
  refine gq_loc [(0, .ref q)] rfl ?_
  refine gq_aload_n hC 0 dX1_init_0 rfl rfl ?_
  refine gq_oinit hC (List.mem_of_getElem? (i := 1) rfl) (List.mem_of_getElem? (i := 2) rfl) (List.mem_of_getElem? (i := 3) rfl) dX1_init_1 ⟨Nat.le_of_ble_eq_true rfl, Nat.le_of_ble_eq_true rfl⟩ ?_
  refine gq_aload_n hC 0 dX1_init_4 rfl rfl ?_
  refine gq_bipush hC 8 dX1_init_5 (by decide) ?_
  refine gq_newQ hC (N := 8) (t0 := 3) (List.mem_of_getElem? (i := 4) rfl) hN.2.2.1 rfl (by decide) (by decide) (by decide) ⟨Nat.le_of_ble_eq_true rfl, Nat.le_of_ble_eq_true rfl⟩ dX1_init_7 (fun qa => ?_)
  have hC := gq_at (k' := 1) (n' := 8) hC ⟨Nat.le_of_ble_eq_true rfl, Nat.le_of_ble_eq_true rfl⟩
  refine gq_wld ((q, .inr (1, [.int 0, .int 0, .null])) :: (qa, .inl (cO, 8, .inr (.inr (.inr (.inr (fun _ => none)))))) :: []) rfl ?_
  refine gq_putF hC (kf := 2) 0 ((q, .inr (1, [.int 0, .int 0, .ref qa])) :: (qa, .inl (cO, 8, .inr (.inr (.inr (.inr (fun _ => none)))))) :: []) hnm tyX1 tyX1_ok nmX1 hin_X1 rfl rfl (by decide) (show Cond.fieldLink RX1 11 (TX1 2).1 (TX1 2).2.1 (TX1 2).2.2.1 ∈ wsX1_init from List.mem_of_getElem? (i := 5) rfl) rfl rfl rfl rfl (Nat.le_of_ble_eq_true rfl) dX1_init_10 rfl ?_
  refine gq_iconst hC 0 dX1_init_13 rfl ?_
  refine gq_istore_n hC [(1, .int 0), (0, .ref q)] dX1_init_14 rfl (by decide) rfl ?_
  refine gq_iload_n hC 0 dX1_init_15 rfl rfl ?_
  refine gq_bipush hC 8 dX1_init_16 (by decide) ?_
  refine gq_icmp_ge hC 40 dX1_init_18 (by decide) (fun h9 => absurd h9 (by decide)) (fun _ => ?_)
  refine gq_aload_n hC 1 dX1_init_21 rfl rfl ?_
  refine gq_get hC (kf := 2) 0 hin_X1 rfl rfl (by decide) (show Cond.fieldLink RX1 11 (TX1 2).1 (TX1 2).2.1 (TX1 2).2.2.1 ∈ wsX1_init from (List.mem_of_getElem? (i := 5) rfl)) rfl dX1_init_22 ?_
  refine gq_iload_n hC 0 dX1_init_25 rfl rfl ?_
  refine gq_newC hC hN (ci := 6) tyX6 (fun w h => List.mem_cons_of_mem _ (List.mem_append_left _ (List.mem_append_left _ (List.mem_append_left _ (List.mem_append_right _ h))))) tyX6_ok rfl (fun j hj => by rcases (show j = 0 ∨ j = 1 ∨ j = 2 ∨ j = 3 by omega) with rfl | rfl | rfl | rfl <;> rfl) ⟨(List.mem_of_getElem? (i := 4) rfl), (List.mem_of_getElem? (i := 6) rfl), (List.mem_of_getElem? (i := 7) rfl)⟩ (fun q9 => kc_X6 l D cI cJ cZ cO z q9) gX1_init_X6_init_n17 rfl ⟨rfl, rfl⟩ ⟨rfl, rfl⟩ (by decide +kernel) (List.mem_of_getElem? (i := 8) rfl) (Or.inl (hN.1 (RX1, 17, yX6_init) (by simp [gq_nl]))) ⟨Nat.le_of_ble_eq_true rfl, Nat.le_of_ble_eq_true rfl⟩ ⟨Nat.le_of_ble_eq_true rfl, Nat.le_of_ble_eq_true rfl⟩ (Nat.le_of_ble_eq_true rfl) dX1_init_26 dX1_init_29 dX1_init_30 (fun q1 W9 h9 => ?_)
  have hC := gq_at (k' := 18) (n' := 555) hC ⟨Nat.le_of_ble_eq_true rfl, Nat.le_of_ble_eq_true rfl⟩
  obtain ⟨a1, a1e, rfl⟩ := h9
  subst a1e
  refine gq_wld ((q, .inr (1, [.int 0, .int 0, .ref qa])) :: (qa, .inl (cO, 8, .inr (.inr (.inr (.inr (fun _ => none)))))) :: ([] ++ gq_shw cI cJ a1 gq_S0)) rfl ?_
  refine gq_aastq hC (ci := 6) 1 3 2 ((q, .inr (1, [.int 0, .int 0, .ref qa])) :: (qa, .inl (cO, 8, .inr (.inr (.inr (.inr (va_up (fun _ => none) (0 : Int32).toNatClampNeg (some (a1 0)))))))) :: ([] ++ gq_shw cI cJ a1 gq_S0)) rfl rfl rfl rfl (by unfold vp_in; decide) dX1_init_33 rfl ?_
  refine gq_iinc hC 0 1 [(1, .int 1), (0, .ref q)] dX1_init_34 rfl (by decide) (by decide) rfl ?_
  refine gq_goto hC 15 dX1_init_37 (by decide) ?_
  refine gq_iload_n hC 0 dX1_init_15 rfl rfl ?_
  refine gq_bipush hC 8 dX1_init_16 (by decide) ?_
  refine gq_icmp_ge hC 40 dX1_init_18 (by decide) (fun h9 => absurd h9 (by decide)) (fun _ => ?_)
  refine gq_aload_n hC 1 dX1_init_21 rfl rfl ?_
  refine gq_get hC (kf := 2) 0 hin_X1 rfl rfl (by decide) (show Cond.fieldLink RX1 11 (TX1 2).1 (TX1 2).2.1 (TX1 2).2.2.1 ∈ wsX1_init from (List.mem_of_getElem? (i := 5) rfl)) rfl dX1_init_22 ?_
  refine gq_iload_n hC 0 dX1_init_25 rfl rfl ?_
  refine gq_newC hC hN (ci := 6) tyX6 (fun w h => List.mem_cons_of_mem _ (List.mem_append_left _ (List.mem_append_left _ (List.mem_append_left _ (List.mem_append_right _ h))))) tyX6_ok rfl (fun j hj => by rcases (show j = 0 ∨ j = 1 ∨ j = 2 ∨ j = 3 by omega) with rfl | rfl | rfl | rfl <;> rfl) ⟨(List.mem_of_getElem? (i := 4) rfl), (List.mem_of_getElem? (i := 6) rfl), (List.mem_of_getElem? (i := 7) rfl)⟩ (fun q9 => kc_X6 l D cI cJ cZ cO z q9) gX1_init_X6_init_n17 rfl ⟨rfl, rfl⟩ ⟨rfl, rfl⟩ (by decide +kernel) (List.mem_of_getElem? (i := 8) rfl) (Or.inl (hN.1 (RX1, 17, yX6_init) (by simp [gq_nl]))) ⟨Nat.le_of_ble_eq_true rfl, Nat.le_of_ble_eq_true rfl⟩ ⟨Nat.le_of_ble_eq_true rfl, Nat.le_of_ble_eq_true rfl⟩ (Nat.le_of_ble_eq_true rfl) dX1_init_26 dX1_init_29 dX1_init_30 (fun q2 W9 h9 => ?_)
  have hC := gq_at (k' := 35) (n' := 1102) hC ⟨Nat.le_of_ble_eq_true rfl, Nat.le_of_ble_eq_true rfl⟩
  obtain ⟨a2, a2e, rfl⟩ := h9
  subst a2e
  refine gq_wld ((q, .inr (1, [.int 0, .int 0, .ref qa])) :: (qa, .inl (cO, 8, .inr (.inr (.inr (.inr (va_up (fun _ => none) (0 : Int32).toNatClampNeg (some (a1 0)))))))) :: (([] ++ gq_shw cI cJ a1 gq_S0) ++ gq_shw cI cJ a2 gq_S0)) rfl ?_
  refine gq_aastq hC (ci := 6) 1 3 19 ((q, .inr (1, [.int 0, .int 0, .ref qa])) :: (qa, .inl (cO, 8, .inr (.inr (.inr (.inr (va_up (va_up (fun _ => none) (0 : Int32).toNatClampNeg (some (a1 0))) (1 : Int32).toNatClampNeg (some (a2 0)))))))) :: (([] ++ gq_shw cI cJ a1 gq_S0) ++ gq_shw cI cJ a2 gq_S0)) rfl rfl rfl rfl (by unfold vp_in; decide) dX1_init_33 rfl ?_
  refine gq_iinc hC 0 2 [(1, .int 2), (0, .ref q)] dX1_init_34 rfl (by decide) (by decide) rfl ?_
  refine gq_goto hC 15 dX1_init_37 (by decide) ?_
  refine gq_iload_n hC 0 dX1_init_15 rfl rfl ?_
  refine gq_bipush hC 8 dX1_init_16 (by decide) ?_
  refine gq_icmp_ge hC 40 dX1_init_18 (by decide) (fun h9 => absurd h9 (by decide)) (fun _ => ?_)
  refine gq_aload_n hC 1 dX1_init_21 rfl rfl ?_
  refine gq_get hC (kf := 2) 0 hin_X1 rfl rfl (by decide) (show Cond.fieldLink RX1 11 (TX1 2).1 (TX1 2).2.1 (TX1 2).2.2.1 ∈ wsX1_init from (List.mem_of_getElem? (i := 5) rfl)) rfl dX1_init_22 ?_
  refine gq_iload_n hC 0 dX1_init_25 rfl rfl ?_
  refine gq_newC hC hN (ci := 6) tyX6 (fun w h => List.mem_cons_of_mem _ (List.mem_append_left _ (List.mem_append_left _ (List.mem_append_left _ (List.mem_append_right _ h))))) tyX6_ok rfl (fun j hj => by rcases (show j = 0 ∨ j = 1 ∨ j = 2 ∨ j = 3 by omega) with rfl | rfl | rfl | rfl <;> rfl) ⟨(List.mem_of_getElem? (i := 4) rfl), (List.mem_of_getElem? (i := 6) rfl), (List.mem_of_getElem? (i := 7) rfl)⟩ (fun q9 => kc_X6 l D cI cJ cZ cO z q9) gX1_init_X6_init_n17 rfl ⟨rfl, rfl⟩ ⟨rfl, rfl⟩ (by decide +kernel) (List.mem_of_getElem? (i := 8) rfl) (Or.inl (hN.1 (RX1, 17, yX6_init) (by simp [gq_nl]))) ⟨Nat.le_of_ble_eq_true rfl, Nat.le_of_ble_eq_true rfl⟩ ⟨Nat.le_of_ble_eq_true rfl, Nat.le_of_ble_eq_true rfl⟩ (Nat.le_of_ble_eq_true rfl) dX1_init_26 dX1_init_29 dX1_init_30 (fun q3 W9 h9 => ?_)
  have hC := gq_at (k' := 52) (n' := 1649) hC ⟨Nat.le_of_ble_eq_true rfl, Nat.le_of_ble_eq_true rfl⟩
  obtain ⟨a3, a3e, rfl⟩ := h9
  subst a3e
  refine gq_wld ((q, .inr (1, [.int 0, .int 0, .ref qa])) :: (qa, .inl (cO, 8, .inr (.inr (.inr (.inr (va_up (va_up (fun _ => none) (0 : Int32).toNatClampNeg (some (a1 0))) (1 : Int32).toNatClampNeg (some (a2 0)))))))) :: ((([] ++ gq_shw cI cJ a1 gq_S0) ++ gq_shw cI cJ a2 gq_S0) ++ gq_shw cI cJ a3 gq_S0)) rfl ?_
  refine gq_aastq hC (ci := 6) 1 3 36 ((q, .inr (1, [.int 0, .int 0, .ref qa])) :: (qa, .inl (cO, 8, .inr (.inr (.inr (.inr (va_up (va_up (va_up (fun _ => none) (0 : Int32).toNatClampNeg (some (a1 0))) (1 : Int32).toNatClampNeg (some (a2 0))) (2 : Int32).toNatClampNeg (some (a3 0)))))))) :: ((([] ++ gq_shw cI cJ a1 gq_S0) ++ gq_shw cI cJ a2 gq_S0) ++ gq_shw cI cJ a3 gq_S0)) rfl rfl rfl rfl (by unfold vp_in; decide) dX1_init_33 rfl ?_
  refine gq_iinc hC 0 3 [(1, .int 3), (0, .ref q)] dX1_init_34 rfl (by decide) (by decide) rfl ?_
  refine gq_goto hC 15 dX1_init_37 (by decide) ?_
  refine gq_iload_n hC 0 dX1_init_15 rfl rfl ?_
  refine gq_bipush hC 8 dX1_init_16 (by decide) ?_
  refine gq_icmp_ge hC 40 dX1_init_18 (by decide) (fun h9 => absurd h9 (by decide)) (fun _ => ?_)
  refine gq_aload_n hC 1 dX1_init_21 rfl rfl ?_
  refine gq_get hC (kf := 2) 0 hin_X1 rfl rfl (by decide) (show Cond.fieldLink RX1 11 (TX1 2).1 (TX1 2).2.1 (TX1 2).2.2.1 ∈ wsX1_init from (List.mem_of_getElem? (i := 5) rfl)) rfl dX1_init_22 ?_
  refine gq_iload_n hC 0 dX1_init_25 rfl rfl ?_
  refine gq_newC hC hN (ci := 6) tyX6 (fun w h => List.mem_cons_of_mem _ (List.mem_append_left _ (List.mem_append_left _ (List.mem_append_left _ (List.mem_append_right _ h))))) tyX6_ok rfl (fun j hj => by rcases (show j = 0 ∨ j = 1 ∨ j = 2 ∨ j = 3 by omega) with rfl | rfl | rfl | rfl <;> rfl) ⟨(List.mem_of_getElem? (i := 4) rfl), (List.mem_of_getElem? (i := 6) rfl), (List.mem_of_getElem? (i := 7) rfl)⟩ (fun q9 => kc_X6 l D cI cJ cZ cO z q9) gX1_init_X6_init_n17 rfl ⟨rfl, rfl⟩ ⟨rfl, rfl⟩ (by decide +kernel) (List.mem_of_getElem? (i := 8) rfl) (Or.inl (hN.1 (RX1, 17, yX6_init) (by simp [gq_nl]))) ⟨Nat.le_of_ble_eq_true rfl, Nat.le_of_ble_eq_true rfl⟩ ⟨Nat.le_of_ble_eq_true rfl, Nat.le_of_ble_eq_true rfl⟩ (Nat.le_of_ble_eq_true rfl) dX1_init_26 dX1_init_29 dX1_init_30 (fun q4 W9 h9 => ?_)
  have hC := gq_at (k' := 69) (n' := 2196) hC ⟨Nat.le_of_ble_eq_true rfl, Nat.le_of_ble_eq_true rfl⟩
  obtain ⟨a4, a4e, rfl⟩ := h9
  subst a4e
  refine gq_wld ((q, .inr (1, [.int 0, .int 0, .ref qa])) :: (qa, .inl (cO, 8, .inr (.inr (.inr (.inr (va_up (va_up (va_up (fun _ => none) (0 : Int32).toNatClampNeg (some (a1 0))) (1 : Int32).toNatClampNeg (some (a2 0))) (2 : Int32).toNatClampNeg (some (a3 0)))))))) :: (((([] ++ gq_shw cI cJ a1 gq_S0) ++ gq_shw cI cJ a2 gq_S0) ++ gq_shw cI cJ a3 gq_S0) ++ gq_shw cI cJ a4 gq_S0)) rfl ?_
  refine gq_aastq hC (ci := 6) 1 3 53 ((q, .inr (1, [.int 0, .int 0, .ref qa])) :: (qa, .inl (cO, 8, .inr (.inr (.inr (.inr (va_up (va_up (va_up (va_up (fun _ => none) (0 : Int32).toNatClampNeg (some (a1 0))) (1 : Int32).toNatClampNeg (some (a2 0))) (2 : Int32).toNatClampNeg (some (a3 0))) (3 : Int32).toNatClampNeg (some (a4 0)))))))) :: (((([] ++ gq_shw cI cJ a1 gq_S0) ++ gq_shw cI cJ a2 gq_S0) ++ gq_shw cI cJ a3 gq_S0) ++ gq_shw cI cJ a4 gq_S0)) rfl rfl rfl rfl (by unfold vp_in; decide) dX1_init_33 rfl ?_
  refine gq_iinc hC 0 4 [(1, .int 4), (0, .ref q)] dX1_init_34 rfl (by decide) (by decide) rfl ?_
  refine gq_goto hC 15 dX1_init_37 (by decide) ?_
  refine gq_iload_n hC 0 dX1_init_15 rfl rfl ?_
  refine gq_bipush hC 8 dX1_init_16 (by decide) ?_
  refine gq_icmp_ge hC 40 dX1_init_18 (by decide) (fun h9 => absurd h9 (by decide)) (fun _ => ?_)
  refine gq_aload_n hC 1 dX1_init_21 rfl rfl ?_
  refine gq_get hC (kf := 2) 0 hin_X1 rfl rfl (by decide) (show Cond.fieldLink RX1 11 (TX1 2).1 (TX1 2).2.1 (TX1 2).2.2.1 ∈ wsX1_init from (List.mem_of_getElem? (i := 5) rfl)) rfl dX1_init_22 ?_
  refine gq_iload_n hC 0 dX1_init_25 rfl rfl ?_
  refine gq_newC hC hN (ci := 6) tyX6 (fun w h => List.mem_cons_of_mem _ (List.mem_append_left _ (List.mem_append_left _ (List.mem_append_left _ (List.mem_append_right _ h))))) tyX6_ok rfl (fun j hj => by rcases (show j = 0 ∨ j = 1 ∨ j = 2 ∨ j = 3 by omega) with rfl | rfl | rfl | rfl <;> rfl) ⟨(List.mem_of_getElem? (i := 4) rfl), (List.mem_of_getElem? (i := 6) rfl), (List.mem_of_getElem? (i := 7) rfl)⟩ (fun q9 => kc_X6 l D cI cJ cZ cO z q9) gX1_init_X6_init_n17 rfl ⟨rfl, rfl⟩ ⟨rfl, rfl⟩ (by decide +kernel) (List.mem_of_getElem? (i := 8) rfl) (Or.inl (hN.1 (RX1, 17, yX6_init) (by simp [gq_nl]))) ⟨Nat.le_of_ble_eq_true rfl, Nat.le_of_ble_eq_true rfl⟩ ⟨Nat.le_of_ble_eq_true rfl, Nat.le_of_ble_eq_true rfl⟩ (Nat.le_of_ble_eq_true rfl) dX1_init_26 dX1_init_29 dX1_init_30 (fun q5 W9 h9 => ?_)
  have hC := gq_at (k' := 86) (n' := 2743) hC ⟨Nat.le_of_ble_eq_true rfl, Nat.le_of_ble_eq_true rfl⟩
  obtain ⟨a5, a5e, rfl⟩ := h9
  subst a5e
  refine gq_wld ((q, .inr (1, [.int 0, .int 0, .ref qa])) :: (qa, .inl (cO, 8, .inr (.inr (.inr (.inr (va_up (va_up (va_up (va_up (fun _ => none) (0 : Int32).toNatClampNeg (some (a1 0))) (1 : Int32).toNatClampNeg (some (a2 0))) (2 : Int32).toNatClampNeg (some (a3 0))) (3 : Int32).toNatClampNeg (some (a4 0)))))))) :: ((((([] ++ gq_shw cI cJ a1 gq_S0) ++ gq_shw cI cJ a2 gq_S0) ++ gq_shw cI cJ a3 gq_S0) ++ gq_shw cI cJ a4 gq_S0) ++ gq_shw cI cJ a5 gq_S0)) rfl ?_
  refine gq_aastq hC (ci := 6) 1 3 70 ((q, .inr (1, [.int 0, .int 0, .ref qa])) :: (qa, .inl (cO, 8, .inr (.inr (.inr (.inr (va_up (va_up (va_up (va_up (va_up (fun _ => none) (0 : Int32).toNatClampNeg (some (a1 0))) (1 : Int32).toNatClampNeg (some (a2 0))) (2 : Int32).toNatClampNeg (some (a3 0))) (3 : Int32).toNatClampNeg (some (a4 0))) (4 : Int32).toNatClampNeg (some (a5 0)))))))) :: ((((([] ++ gq_shw cI cJ a1 gq_S0) ++ gq_shw cI cJ a2 gq_S0) ++ gq_shw cI cJ a3 gq_S0) ++ gq_shw cI cJ a4 gq_S0) ++ gq_shw cI cJ a5 gq_S0)) rfl rfl rfl rfl (by unfold vp_in; decide) dX1_init_33 rfl ?_
  refine gq_iinc hC 0 5 [(1, .int 5), (0, .ref q)] dX1_init_34 rfl (by decide) (by decide) rfl ?_
  refine gq_goto hC 15 dX1_init_37 (by decide) ?_
  refine gq_iload_n hC 0 dX1_init_15 rfl rfl ?_
  refine gq_bipush hC 8 dX1_init_16 (by decide) ?_
  refine gq_icmp_ge hC 40 dX1_init_18 (by decide) (fun h9 => absurd h9 (by decide)) (fun _ => ?_)
  refine gq_aload_n hC 1 dX1_init_21 rfl rfl ?_
  refine gq_get hC (kf := 2) 0 hin_X1 rfl rfl (by decide) (show Cond.fieldLink RX1 11 (TX1 2).1 (TX1 2).2.1 (TX1 2).2.2.1 ∈ wsX1_init from (List.mem_of_getElem? (i := 5) rfl)) rfl dX1_init_22 ?_
  refine gq_iload_n hC 0 dX1_init_25 rfl rfl ?_
  refine gq_newC hC hN (ci := 6) tyX6 (fun w h => List.mem_cons_of_mem _ (List.mem_append_left _ (List.mem_append_left _ (List.mem_append_left _ (List.mem_append_right _ h))))) tyX6_ok rfl (fun j hj => by rcases (show j = 0 ∨ j = 1 ∨ j = 2 ∨ j = 3 by omega) with rfl | rfl | rfl | rfl <;> rfl) ⟨(List.mem_of_getElem? (i := 4) rfl), (List.mem_of_getElem? (i := 6) rfl), (List.mem_of_getElem? (i := 7) rfl)⟩ (fun q9 => kc_X6 l D cI cJ cZ cO z q9) gX1_init_X6_init_n17 rfl ⟨rfl, rfl⟩ ⟨rfl, rfl⟩ (by decide +kernel) (List.mem_of_getElem? (i := 8) rfl) (Or.inl (hN.1 (RX1, 17, yX6_init) (by simp [gq_nl]))) ⟨Nat.le_of_ble_eq_true rfl, Nat.le_of_ble_eq_true rfl⟩ ⟨Nat.le_of_ble_eq_true rfl, Nat.le_of_ble_eq_true rfl⟩ (Nat.le_of_ble_eq_true rfl) dX1_init_26 dX1_init_29 dX1_init_30 (fun q6 W9 h9 => ?_)
  have hC := gq_at (k' := 103) (n' := 3290) hC ⟨Nat.le_of_ble_eq_true rfl, Nat.le_of_ble_eq_true rfl⟩
  obtain ⟨a6, a6e, rfl⟩ := h9
  subst a6e
  refine gq_wld ((q, .inr (1, [.int 0, .int 0, .ref qa])) :: (qa, .inl (cO, 8, .inr (.inr (.inr (.inr (va_up (va_up (va_up (va_up (va_up (fun _ => none) (0 : Int32).toNatClampNeg (some (a1 0))) (1 : Int32).toNatClampNeg (some (a2 0))) (2 : Int32).toNatClampNeg (some (a3 0))) (3 : Int32).toNatClampNeg (some (a4 0))) (4 : Int32).toNatClampNeg (some (a5 0)))))))) :: (((((([] ++ gq_shw cI cJ a1 gq_S0) ++ gq_shw cI cJ a2 gq_S0) ++ gq_shw cI cJ a3 gq_S0) ++ gq_shw cI cJ a4 gq_S0) ++ gq_shw cI cJ a5 gq_S0) ++ gq_shw cI cJ a6 gq_S0)) rfl ?_
  refine gq_aastq hC (ci := 6) 1 3 87 ((q, .inr (1, [.int 0, .int 0, .ref qa])) :: (qa, .inl (cO, 8, .inr (.inr (.inr (.inr (va_up (va_up (va_up (va_up (va_up (va_up (fun _ => none) (0 : Int32).toNatClampNeg (some (a1 0))) (1 : Int32).toNatClampNeg (some (a2 0))) (2 : Int32).toNatClampNeg (some (a3 0))) (3 : Int32).toNatClampNeg (some (a4 0))) (4 : Int32).toNatClampNeg (some (a5 0))) (5 : Int32).toNatClampNeg (some (a6 0)))))))) :: (((((([] ++ gq_shw cI cJ a1 gq_S0) ++ gq_shw cI cJ a2 gq_S0) ++ gq_shw cI cJ a3 gq_S0) ++ gq_shw cI cJ a4 gq_S0) ++ gq_shw cI cJ a5 gq_S0) ++ gq_shw cI cJ a6 gq_S0)) rfl rfl rfl rfl (by unfold vp_in; decide) dX1_init_33 rfl ?_
  refine gq_iinc hC 0 6 [(1, .int 6), (0, .ref q)] dX1_init_34 rfl (by decide) (by decide) rfl ?_
  refine gq_goto hC 15 dX1_init_37 (by decide) ?_
  refine gq_iload_n hC 0 dX1_init_15 rfl rfl ?_
  refine gq_bipush hC 8 dX1_init_16 (by decide) ?_
  refine gq_icmp_ge hC 40 dX1_init_18 (by decide) (fun h9 => absurd h9 (by decide)) (fun _ => ?_)
  refine gq_aload_n hC 1 dX1_init_21 rfl rfl ?_
  refine gq_get hC (kf := 2) 0 hin_X1 rfl rfl (by decide) (show Cond.fieldLink RX1 11 (TX1 2).1 (TX1 2).2.1 (TX1 2).2.2.1 ∈ wsX1_init from (List.mem_of_getElem? (i := 5) rfl)) rfl dX1_init_22 ?_
  refine gq_iload_n hC 0 dX1_init_25 rfl rfl ?_
  refine gq_newC hC hN (ci := 6) tyX6 (fun w h => List.mem_cons_of_mem _ (List.mem_append_left _ (List.mem_append_left _ (List.mem_append_left _ (List.mem_append_right _ h))))) tyX6_ok rfl (fun j hj => by rcases (show j = 0 ∨ j = 1 ∨ j = 2 ∨ j = 3 by omega) with rfl | rfl | rfl | rfl <;> rfl) ⟨(List.mem_of_getElem? (i := 4) rfl), (List.mem_of_getElem? (i := 6) rfl), (List.mem_of_getElem? (i := 7) rfl)⟩ (fun q9 => kc_X6 l D cI cJ cZ cO z q9) gX1_init_X6_init_n17 rfl ⟨rfl, rfl⟩ ⟨rfl, rfl⟩ (by decide +kernel) (List.mem_of_getElem? (i := 8) rfl) (Or.inl (hN.1 (RX1, 17, yX6_init) (by simp [gq_nl]))) ⟨Nat.le_of_ble_eq_true rfl, Nat.le_of_ble_eq_true rfl⟩ ⟨Nat.le_of_ble_eq_true rfl, Nat.le_of_ble_eq_true rfl⟩ (Nat.le_of_ble_eq_true rfl) dX1_init_26 dX1_init_29 dX1_init_30 (fun q7 W9 h9 => ?_)
  have hC := gq_at (k' := 120) (n' := 3837) hC ⟨Nat.le_of_ble_eq_true rfl, Nat.le_of_ble_eq_true rfl⟩
  obtain ⟨a7, a7e, rfl⟩ := h9
  subst a7e
  refine gq_wld ((q, .inr (1, [.int 0, .int 0, .ref qa])) :: (qa, .inl (cO, 8, .inr (.inr (.inr (.inr (va_up (va_up (va_up (va_up (va_up (va_up (fun _ => none) (0 : Int32).toNatClampNeg (some (a1 0))) (1 : Int32).toNatClampNeg (some (a2 0))) (2 : Int32).toNatClampNeg (some (a3 0))) (3 : Int32).toNatClampNeg (some (a4 0))) (4 : Int32).toNatClampNeg (some (a5 0))) (5 : Int32).toNatClampNeg (some (a6 0)))))))) :: ((((((([] ++ gq_shw cI cJ a1 gq_S0) ++ gq_shw cI cJ a2 gq_S0) ++ gq_shw cI cJ a3 gq_S0) ++ gq_shw cI cJ a4 gq_S0) ++ gq_shw cI cJ a5 gq_S0) ++ gq_shw cI cJ a6 gq_S0) ++ gq_shw cI cJ a7 gq_S0)) rfl ?_
  refine gq_aastq hC (ci := 6) 1 3 104 ((q, .inr (1, [.int 0, .int 0, .ref qa])) :: (qa, .inl (cO, 8, .inr (.inr (.inr (.inr (va_up (va_up (va_up (va_up (va_up (va_up (va_up (fun _ => none) (0 : Int32).toNatClampNeg (some (a1 0))) (1 : Int32).toNatClampNeg (some (a2 0))) (2 : Int32).toNatClampNeg (some (a3 0))) (3 : Int32).toNatClampNeg (some (a4 0))) (4 : Int32).toNatClampNeg (some (a5 0))) (5 : Int32).toNatClampNeg (some (a6 0))) (6 : Int32).toNatClampNeg (some (a7 0)))))))) :: ((((((([] ++ gq_shw cI cJ a1 gq_S0) ++ gq_shw cI cJ a2 gq_S0) ++ gq_shw cI cJ a3 gq_S0) ++ gq_shw cI cJ a4 gq_S0) ++ gq_shw cI cJ a5 gq_S0) ++ gq_shw cI cJ a6 gq_S0) ++ gq_shw cI cJ a7 gq_S0)) rfl rfl rfl rfl (by unfold vp_in; decide) dX1_init_33 rfl ?_
  refine gq_iinc hC 0 7 [(1, .int 7), (0, .ref q)] dX1_init_34 rfl (by decide) (by decide) rfl ?_
  refine gq_goto hC 15 dX1_init_37 (by decide) ?_
  refine gq_iload_n hC 0 dX1_init_15 rfl rfl ?_
  refine gq_bipush hC 8 dX1_init_16 (by decide) ?_
  refine gq_icmp_ge hC 40 dX1_init_18 (by decide) (fun h9 => absurd h9 (by decide)) (fun _ => ?_)
  refine gq_aload_n hC 1 dX1_init_21 rfl rfl ?_
  refine gq_get hC (kf := 2) 0 hin_X1 rfl rfl (by decide) (show Cond.fieldLink RX1 11 (TX1 2).1 (TX1 2).2.1 (TX1 2).2.2.1 ∈ wsX1_init from (List.mem_of_getElem? (i := 5) rfl)) rfl dX1_init_22 ?_
  refine gq_iload_n hC 0 dX1_init_25 rfl rfl ?_
  refine gq_newC hC hN (ci := 6) tyX6 (fun w h => List.mem_cons_of_mem _ (List.mem_append_left _ (List.mem_append_left _ (List.mem_append_left _ (List.mem_append_right _ h))))) tyX6_ok rfl (fun j hj => by rcases (show j = 0 ∨ j = 1 ∨ j = 2 ∨ j = 3 by omega) with rfl | rfl | rfl | rfl <;> rfl) ⟨(List.mem_of_getElem? (i := 4) rfl), (List.mem_of_getElem? (i := 6) rfl), (List.mem_of_getElem? (i := 7) rfl)⟩ (fun q9 => kc_X6 l D cI cJ cZ cO z q9) gX1_init_X6_init_n17 rfl ⟨rfl, rfl⟩ ⟨rfl, rfl⟩ (by decide +kernel) (List.mem_of_getElem? (i := 8) rfl) (Or.inl (hN.1 (RX1, 17, yX6_init) (by simp [gq_nl]))) ⟨Nat.le_of_ble_eq_true rfl, Nat.le_of_ble_eq_true rfl⟩ ⟨Nat.le_of_ble_eq_true rfl, Nat.le_of_ble_eq_true rfl⟩ (Nat.le_of_ble_eq_true rfl) dX1_init_26 dX1_init_29 dX1_init_30 (fun q8 W9 h9 => ?_)
  have hC := gq_at (k' := 137) (n' := 4384) hC ⟨Nat.le_of_ble_eq_true rfl, Nat.le_of_ble_eq_true rfl⟩
  obtain ⟨a8, a8e, rfl⟩ := h9
  subst a8e
  refine gq_wld ((q, .inr (1, [.int 0, .int 0, .ref qa])) :: (qa, .inl (cO, 8, .inr (.inr (.inr (.inr (va_up (va_up (va_up (va_up (va_up (va_up (va_up (fun _ => none) (0 : Int32).toNatClampNeg (some (a1 0))) (1 : Int32).toNatClampNeg (some (a2 0))) (2 : Int32).toNatClampNeg (some (a3 0))) (3 : Int32).toNatClampNeg (some (a4 0))) (4 : Int32).toNatClampNeg (some (a5 0))) (5 : Int32).toNatClampNeg (some (a6 0))) (6 : Int32).toNatClampNeg (some (a7 0)))))))) :: (((((((([] ++ gq_shw cI cJ a1 gq_S0) ++ gq_shw cI cJ a2 gq_S0) ++ gq_shw cI cJ a3 gq_S0) ++ gq_shw cI cJ a4 gq_S0) ++ gq_shw cI cJ a5 gq_S0) ++ gq_shw cI cJ a6 gq_S0) ++ gq_shw cI cJ a7 gq_S0) ++ gq_shw cI cJ a8 gq_S0)) rfl ?_
  refine gq_aastq hC (ci := 6) 1 3 121 ((q, .inr (1, [.int 0, .int 0, .ref qa])) :: (qa, .inl (cO, 8, .inr (.inr (.inr (.inr (va_up (va_up (va_up (va_up (va_up (va_up (va_up (va_up (fun _ => none) (0 : Int32).toNatClampNeg (some (a1 0))) (1 : Int32).toNatClampNeg (some (a2 0))) (2 : Int32).toNatClampNeg (some (a3 0))) (3 : Int32).toNatClampNeg (some (a4 0))) (4 : Int32).toNatClampNeg (some (a5 0))) (5 : Int32).toNatClampNeg (some (a6 0))) (6 : Int32).toNatClampNeg (some (a7 0))) (7 : Int32).toNatClampNeg (some (a8 0)))))))) :: (((((((([] ++ gq_shw cI cJ a1 gq_S0) ++ gq_shw cI cJ a2 gq_S0) ++ gq_shw cI cJ a3 gq_S0) ++ gq_shw cI cJ a4 gq_S0) ++ gq_shw cI cJ a5 gq_S0) ++ gq_shw cI cJ a6 gq_S0) ++ gq_shw cI cJ a7 gq_S0) ++ gq_shw cI cJ a8 gq_S0)) rfl rfl rfl rfl (by unfold vp_in; decide) dX1_init_33 rfl ?_
  refine gq_iinc hC 0 8 [(1, .int 8), (0, .ref q)] dX1_init_34 rfl (by decide) (by decide) rfl ?_
  refine gq_goto hC 15 dX1_init_37 (by decide) ?_
  refine gq_iload_n hC 0 dX1_init_15 rfl rfl ?_
  refine gq_bipush hC 8 dX1_init_16 (by decide) ?_
  refine gq_icmp_ge hC 40 dX1_init_18 (by decide) (fun _ => ?_) (fun h9 => absurd (by decide) h9)
  refine gq_q8 (f2 := fun j => some ((fun n => match n / 17 with | 0 => a1 (n % 17) | 1 => a2 (n % 17) | 2 => a3 (n % 17) | 3 => a4 (n % 17) | 4 => a5 (n % 17) | 5 => a6 (n % 17) | 6 => a7 (n % 17) | _ => a8 (n % 17)) (17 * j))) (fun j hj => by rcases (show j = 0 ∨ j = 1 ∨ j = 2 ∨ j = 3 ∨ j = 4 ∨ j = 5 ∨ j = 6 ∨ j = 7 by omega) with rfl | rfl | rfl | rfl | rfl | rfl | rfl | rfl <;> rfl) ?_
  exact gq_cret hC (Nat.le_of_ble_eq_true rfl) (Nat.le_of_ble_eq_true rfl) ⟨qa, (fun n => match n / 17 with | 0 => a1 (n % 17) | 1 => a2 (n % 17) | 2 => a3 (n % 17) | 3 => a4 (n % 17) | 4 => a5 (n % 17) | 5 => a6 (n % 17) | 6 => a7 (n % 17) | _ => a8 (n % 17)), rfl⟩ dX1_init_40
