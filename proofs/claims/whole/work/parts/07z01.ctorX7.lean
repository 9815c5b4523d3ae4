def PX7 (cI cJ cZ cO : ClassId) (q : Nat) (W : va_W) : Prop := ∃ q1 q2 q3 : Nat, W = [(q, .inr (7, [.int 0, .ref q1, .ref q2, .ref q3])), (q1, .inl (cI, 5, .inl (fun _ => 0))), (q2, .inl (cI, 5, .inl (fun _ => 0))), (q3, .inl (cI, 5, .inl (fun _ => 0)))]
set_option maxHeartbeats 4000000 in
set_option maxRecDepth 100000 in
theorem kc_X7 (l : Launch) (D : va_G) (cI cJ cZ cO : ClassId) (z : Nat → Nat) (q : Nat) : Cv l yX7_init wsX7_init (rmC 1 3 15) D (gq_ty cI cJ cZ cO) cI z [.ref q] [(q, .inr (7, [.int 0, .null, .null, .null]))] (PX7 cI cJ cZ cO q) 3 15 := by
  refine Cv.of (cc := cX7_init) (maxL := 1) (by decide) rfl rfl (Nat.le_of_ble_eq_true rfl) ?_
  intro p e s m args below meth c A hC hN hnm
  have hin_X7 : ∀ w ∈ wsX70, w ∈ wsX7_init := fun w h => List.mem_cons_of_mem _ (List.mem_append_right _ h)
  refine gq_loc [(0, .ref q)] rfl ?_
  refine gq_aload_n hC 0 dX7_init_0 rfl rfl ?_
  refine gq_oinit hC (List.mem_of_getElem? (i := 1) rfl) (List.mem_of_getElem? (i := 2) rfl) (List.mem_of_getElem? (i := 3) rfl) dX7_init_1 ⟨Nat.le_of_ble_eq_true rfl, Nat.le_of_ble_eq_true rfl⟩ ?_
  refine gq_aload_n hC 0 dX7_init_4 rfl rfl ?_
  refine gq_iconst hC 5 dX7_init_5 (by decide) ?_
  refine gq_newI hC (N := 5) (t0 := 0) (List.mem_of_getElem? (i := 4) rfl) rfl (by decide) (by decide) (by decide) ⟨Nat.le_of_ble_eq_true rfl, Nat.le_of_ble_eq_true rfl⟩ dX7_init_6 (fun q1 => ?_)
  have hC := gq_at (k' := 1) (n' := 5) hC ⟨Nat.le_of_ble_eq_true rfl, Nat.le_of_ble_eq_true rfl⟩
  refine gq_wld ((q, .inr (7, [.int 0, .null, .null, .null])) :: ([] ++ [(q1, .inl (cI, 5, .inl (fun _ => 0)))])) rfl ?_
  refine gq_putF hC (kf := 1) 0 ((q, .inr (7, [.int 0, .ref q1, .null, .null])) :: ([] ++ [(q1, .inl (cI, 5, .inl (fun _ => 0)))])) hnm tyX7 tyX7_ok nmX7 hin_X7 rfl rfl (by decide) (show Cond.fieldLink RX7 9 (TX7 1).1 (TX7 1).2.1 (TX7 1).2.2.1 ∈ wsX7_init from List.mem_of_getElem? (i := 5) rfl) rfl rfl rfl rfl (Nat.le_of_ble_eq_true rfl) dX7_init_8 rfl ?_
  refine gq_aload_n hC 0 dX7_init_11 rfl rfl ?_
  refine gq_iconst hC 5 dX7_init_12 (by decide) ?_
  refine gq_newI hC (N := 5) (t0 := 0) (List.mem_of_getElem? (i := 4) rfl) rfl (by decide) (by decide) (by decide) ⟨Nat.le_of_ble_eq_true rfl, Nat.le_of_ble_eq_true rfl⟩ dX7_init_13 (fun q2 => ?_)
  have hC := gq_at (k' := 2) (n' := 10) hC ⟨Nat.le_of_ble_eq_true rfl, Nat.le_of_ble_eq_true rfl⟩
  refine gq_wld ((q, .inr (7, [.int 0, .ref q1, .null, .null])) :: (([] ++ [(q1, .inl (cI, 5, .inl (fun _ => 0)))]) ++ [(q2, .inl (cI, 5, .inl (fun _ => 0)))])) rfl ?_
  refine gq_putF hC (kf := 2) 0 ((q, .inr (7, [.int 0, .ref q1, .ref q2, .null])) :: (([] ++ [(q1, .inl (cI, 5, .inl (fun _ => 0)))]) ++ [(q2, .inl (cI, 5, .inl (fun _ => 0)))])) hnm tyX7 tyX7_ok nmX7 hin_X7 rfl rfl (by decide) (show Cond.fieldLink RX7 15 (TX7 2).1 (TX7 2).2.1 (TX7 2).2.2.1 ∈ wsX7_init from List.mem_of_getElem? (i := 6) rfl) rfl rfl rfl rfl (Nat.le_of_ble_eq_true rfl) dX7_init_15 rfl ?_
  refine gq_aload_n hC 0 dX7_init_18 rfl rfl ?_
  refine gq_iconst hC 5 dX7_init_19 (by decide) ?_
  refine gq_newI hC (N := 5) (t0 := 0) (List.mem_of_getElem? (i := 4) rfl) rfl (by decide) (by decide) (by decide) ⟨Nat.le_of_ble_eq_true rfl, Nat.le_of_ble_eq_true rfl⟩ dX7_init_20 (fun q3 => ?_)
  have hC := gq_at (k' := 3) (n' := 15) hC ⟨Nat.le_of_ble_eq_true rfl, Nat.le_of_ble_eq_true rfl⟩
  refine gq_wld ((q, .inr (7, [.int 0, .ref q1, .ref q2, .null])) :: ((([] ++ [(q1, .inl (cI, 5, .inl (fun _ => 0)))]) ++ [(q2, .inl (cI, 5, .inl (fun _ => 0)))]) ++ [(q3, .inl (cI, 5, .inl (fun _ => 0)))])) rfl ?_
  refine gq_putF hC (kf := 3) 0 ((q, .inr (7, [.int 0, .ref q1, .ref q2, .ref q3])) :: ((([] ++ [(q1, .inl (cI, 5, .inl (fun _ => 0)))]) ++ [(q2, .inl (cI, 5, .inl (fun _ => 0)))]) ++ [(q3, .inl (cI, 5, .inl (fun _ => 0)))])) hnm tyX7 tyX7_ok nmX7 hin_X7 rfl rfl (by decide) (show Cond.fieldLink RX7 18 (TX7 3).1 (TX7 3).2.1 (TX7 3).2.2.1 ∈ wsX7_init from List.mem_of_getElem? (i := 7) rfl) rfl rfl rfl rfl (Nat.le_of_ble_eq_true rfl) dX7_init_22 rfl ?_
  exact gq_cret hC (Nat.le_of_ble_eq_true rfl) (Nat.le_of_ble_eq_true rfl) ⟨q1, q2, q3, rfl⟩ dX7_init_25
