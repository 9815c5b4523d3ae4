/-! ===== placements, by the class ===== -/
section
variable {A : Nat → Nat} {a : Nat → Int64} {sc wc ns : Int32} {ord dur pau siz wor st wi le re set tim cut : Nat → Int32} {nam : Nat → Int64}
theorem p_leastCost (hV : VA A) (h : TR A sc wc ord dur pau siz wor nam) (hR : SR A set) (hQ : QR A ns wi le re) (hT : ∀ b, b + 1 < A 6 → tim b = nI (sp A (b + 1))) (hU : ∀ b, b + 1 < A 6 → cut b = bI (ctB A b = true)) {cos : Nat → Int32} {i b : Nat} (hi : i < A 8) (hb : b + 1 < A 6) (hC : i + 1 < A 8 → ∀ b, b + 1 < A 6 → cos ((i + 1) * 31 + b) = oI (rw_ A (i + 1) b)) :
    F_X4_leastCost (nI i) (nI b) (nI (A 6 - 1)) cos tim cut ord pau ns wi re set = some (oI (rw_ A i b)) := by
  have hn := hV.n
  have hl := hV.nl
  have h5 := hV.s5
  have hns := hQ.1
  have hd := dst_b hV hi (b := b) (by omega)
  have hs := sp_b hV (s := b + 1) (by omega)
  have hch := p_isChoice hV h hR hQ hT hi hb
  by_cases hm : may A i b
  · rw [bI_1 hm] at hch
    have e37 : ∀ u : Nat, u ≤ 20 → F_X4_leastCost_b37 (nI i) (nI b) (nI u) (nI (dst A i b)) (nI (A 6 - 1)) cos tim ns set = some (oI (if i + 1 < A 8 then (match cp A (rw_ A (i + 1)) (b + 1) (sp A (b + 1) + A 5) with | none => none | some x => some (dst A i b + u + x.2)) else some (dst A i b + u))) := fun u hu => by
      by_cases h1 : i + 1 < A 8
      · rw [if_pos h1]
        have hc := p_cheapest (tim := tim) (cos := cos) (R := rw_ A (i + 1)) (i := i + 1) (f := b + 1) (t := sp A (b + 1) + A 5) hV hT (by omega) (by omega) (by omega) (hC h1) (fun b c h2 h3 => by have := rw_b hV h1 b c h2 h3; omega)
        have ht := hT b hb
        cases hx : cp A (rw_ A (i + 1)) (b + 1) (sp A (b + 1) + A 5) with
        | none =>
          rw [hx] at hc
          dsimp only at hc
          simp (disch := omega) only [fa_lit, fa_litL, nI_add, pk_mul, pk_sub, nI_clamp, gi_n, gb_0, gb_1, nI_ltI, nI_leI, nI_eq, lc_lt, lc_gt, lc_ge, lc_le, lc_eq, lN_i, nI_l, lN_add, lN_mul, lN_lt, lN_le, lN_eq, mI_eqR, mI_eqL, mI_ltL, mI_ltR, mI_leL, mI_leR, mI_add, ob1_some, ob2_some, ob3_some, ob4_some, ob5_some, ob6_some, ob7_some, ob8_some, if_true, if_false, if_pos, if_neg, Sum.elim_inl, Sum.elim_inr, un1, un2, un3, un4, un5, Nat.zero_add, Nat.add_zero, Nat.mul_one, Nat.mul_zero, Nat.sub_zero, pk_us, pk_uLs, xoq_l, xoq_r, nI_sle, F_X4_leastCost_b37, hns, ht, hR.at, hc, oI]
        | some x =>
          rw [hx] at hc
          dsimp only at hc
          have hb2 := cp_b hV h1 hx
          have h3 := hC h1 x.1 hb2.2.1
          rw [hb2.2.2.2] at h3
          have h3 : cos ((i + 1) * 31 + x.1) = nI x.2 := h3
          simp (disch := omega) only [fa_lit, fa_litL, nI_add, pk_mul, pk_sub, nI_clamp, gi_n, gb_0, gb_1, nI_ltI, nI_leI, nI_eq, lc_lt, lc_gt, lc_ge, lc_le, lc_eq, lN_i, nI_l, lN_add, lN_mul, lN_lt, lN_le, lN_eq, mI_eqR, mI_eqL, mI_ltL, mI_ltR, mI_leL, mI_leR, mI_add, ob1_some, ob2_some, ob3_some, ob4_some, ob5_some, ob6_some, ob7_some, ob8_some, if_true, if_false, if_pos, if_neg, Sum.elim_inl, Sum.elim_inr, un1, un2, un3, un4, un5, Nat.zero_add, Nat.add_zero, Nat.mul_one, Nat.mul_zero, Nat.sub_zero, pk_us, pk_uLs, xoq_l, xoq_r, nI_sle, F_X4_leastCost_b37, hns, ht, hR.at, hc, oI, h3]
      · rw [if_neg h1]
        simp (disch := omega) only [fa_lit, fa_litL, nI_add, pk_mul, pk_sub, nI_clamp, gi_n, gb_0, gb_1, nI_ltI, nI_leI, nI_eq, lc_lt, lc_gt, lc_ge, lc_le, lc_eq, lN_i, nI_l, lN_add, lN_mul, lN_lt, lN_le, lN_eq, mI_eqR, mI_eqL, mI_ltL, mI_ltR, mI_leL, mI_leR, mI_add, ob1_some, ob2_some, ob3_some, ob4_some, ob5_some, ob6_some, ob7_some, ob8_some, if_true, if_false, if_pos, if_neg, Sum.elim_inl, Sum.elim_inr, un1, un2, un3, un4, un5, Nat.zero_add, Nat.add_zero, Nat.mul_one, Nat.mul_zero, Nat.sub_zero, pk_us, pk_uLs, xoq_l, xoq_r, nI_sle, F_X4_leastCost_b37, hns, oI]
    have hr : rw_ A i b = (if i + 1 < A 8 then (match cp A (rw_ A (i + 1)) (b + 1) (sp A (b + 1) + A 5) with | none => none | some x => some (its A i b + x.2)) else some (its A i b)) := by
      by_cases h1 : i + 1 < A 8
      · rw [if_pos h1, rw_e h1, if_pos hm]
        cases cp A (rw_ A (i + 1)) (b + 1) (sp A (b + 1) + A 5) <;> rfl
      · rw [if_neg h1, rw_l (by omega), if_pos hm]
    rw [hr]
    have hu := hU b hb
    by_cases h2 : ctB A b = true
    · rw [bI_1 h2] at hu
      have e := e37 0 (by omega)
      unfold its
      simp only [if_pos h2]
      simp (disch := omega) only [fa_lit, fa_litL, nI_add, pk_mul, pk_sub, nI_clamp, gi_n, gb_0, gb_1, nI_ltI, nI_leI, nI_eq, lc_lt, lc_gt, lc_ge, lc_le, lc_eq, lN_i, nI_l, lN_add, lN_mul, lN_lt, lN_le, lN_eq, mI_eqR, mI_eqL, mI_ltL, mI_ltR, mI_leL, mI_leR, mI_add, ob1_some, ob2_some, ob3_some, ob4_some, ob5_some, ob6_some, ob7_some, ob8_some, if_true, if_false, if_pos, if_neg, Sum.elim_inl, Sum.elim_inr, un1, un2, un3, un4, un5, Nat.zero_add, Nat.add_zero, Nat.mul_one, Nat.mul_zero, Nat.sub_zero, pk_us, pk_uLs, xoq_l, xoq_r, nI_sle, F_X4_leastCost, hch, p_distance hV hQ hT, hu]
      exact e
    · rw [bI_0 h2] at hu
      have e := e37 20 (by omega)
      unfold its
      simp only [if_neg h2]
      simp (disch := omega) only [fa_lit, fa_litL, nI_add, pk_mul, pk_sub, nI_clamp, gi_n, gb_0, gb_1, nI_ltI, nI_leI, nI_eq, lc_lt, lc_gt, lc_ge, lc_le, lc_eq, lN_i, nI_l, lN_add, lN_mul, lN_lt, lN_le, lN_eq, mI_eqR, mI_eqL, mI_ltL, mI_ltR, mI_leL, mI_leR, mI_add, ob1_some, ob2_some, ob3_some, ob4_some, ob5_some, ob6_some, ob7_some, ob8_some, if_true, if_false, if_pos, if_neg, Sum.elim_inl, Sum.elim_inr, un1, un2, un3, un4, un5, Nat.zero_add, Nat.add_zero, Nat.mul_one, Nat.mul_zero, Nat.sub_zero, pk_us, pk_uLs, xoq_l, xoq_r, nI_sle, F_X4_leastCost, hch, p_distance hV hQ hT, hu]
      exact e
  · rw [bI_0 hm] at hch
    have hr : rw_ A i b = none := by
      by_cases h1 : i + 1 < A 8
      · rw [rw_e h1, if_neg hm]
      · rw [rw_l (by omega), if_neg hm]
    rw [hr]
    simp (disch := omega) only [fa_lit, fa_litL, nI_add, pk_mul, pk_sub, nI_clamp, gi_n, gb_0, gb_1, nI_ltI, nI_leI, nI_eq, lc_lt, lc_gt, lc_ge, lc_le, lc_eq, lN_i, nI_l, lN_add, lN_mul, lN_lt, lN_le, lN_eq, mI_eqR, mI_eqL, mI_ltL, mI_ltR, mI_leL, mI_leR, mI_add, ob1_some, ob2_some, ob3_some, ob4_some, ob5_some, ob6_some, ob7_some, ob8_some, if_true, if_false, if_pos, if_neg, Sum.elim_inl, Sum.elim_inr, un1, un2, un3, un4, un5, Nat.zero_add, Nat.add_zero, Nat.mul_one, Nat.mul_zero, Nat.sub_zero, pk_us, pk_uLs, xoq_l, xoq_r, nI_sle, F_X4_leastCost, hch, oI]
/-- what the class keeps of the best placement -/
def PV (A : Nat → Nat) (bc : Int32) (pl : Nat → Int32) : Prop := bc = oI (pco A) ∧ ((pco A).isSome = true → ∀ i x, i < A 8 → plc A i = some x → pl i = nI x.1)
theorem pco_some {c : Nat} (h : pco A = some c) : ∀ i, i < A 8 → ∃ x, plc A i = some x := by
  intro i hi
  cases hx : plc A i with
  | some x => exact ⟨x, rfl⟩
  | none =>
    exfalso
    have h1 : pst A (i + 1) = none := by rw [pst_s, hx]
    have h2 := pst_no h1 (A 8 - (i + 1))
    rw [show i + 1 + (A 8 - (i + 1)) = A 8 by omega] at h2
    unfold pco at h
    rw [h2] at h
    cases h
theorem p_takePlaces (hV : VA A) (hR : SR A set) (hT : ∀ b, b + 1 < A 6 → tim b = nI (sp A (b + 1))) {cos pl : Nat → Int32} {bc : Int32} (hns : ns = nI (A 8)) (hC : ∀ i, i < A 8 → ∀ b, b + 1 < A 6 → cos (i * 31 + b) = oI (rw_ A i b)) :
    ∃ pl', F_X4_takeBest bc (nI (A 6 - 1)) pl cos tim ns set = some (oI (pco A), pl') ∧ PV A (oI (pco A)) pl' := by
  have hn := hV.n
  have hl := hV.nl
  have h5 := hV.s5
  subst hns
  have key : ∃ pl', (∃ z, wh (fun k q => S_X4_takeBest_12 (nI (A 6 - 1)) cos tim (nI (A 8)) set k q.1 q.2.1 q.2.2.1 q.2.2.2.1 q.2.2.2.2) wF (nI 0, nI 0, nI 0, nI 0, pl) = some (match pco A with | none => .inl (z, pl') | some c => .inr (nI c, pl'))) ∧ ((pco A).isSome = true → ∀ i x, i < A 8 → plc A i = some x → pl' i = nI x.1) := by
    refine wh_up (A 8) (by omega) (fun (i : Nat) (q : Int32 × Int32 × Int32 × (Int32) × (Nat → Int32)) => ∃ y P, pst A i = some y ∧ q = (nI y.1, nI y.2, nI i, (if i = 0 then nI 0 else (match plc A 0 with | none => nI 0 | some x => nI x.2)), P) ∧ ∀ j x, j < i → plc A j = some x → P j = nI x.1) (fun (o : Option (((Int32) × (Nat → Int32)) ⊕ ((Int32) × (Nat → Int32)))) => ∃ pl', (∃ z, o = some (match pco A with | none => .inl (z, pl') | some c => .inr (nI c, pl'))) ∧ ((pco A).isSome = true → ∀ i x, i < A 8 → plc A i = some x → pl' i = nI x.1)) (fun i q hi hI k hk => ?_) (Nat.zero_le _) ⟨(0, 0), pl, rfl, rfl, fun j x h => absurd h (Nat.not_lt_zero j)⟩
    obtain ⟨y, P, h1, rfl, h3⟩ := hI
    show ∃ pl', (∃ z, S_X4_takeBest_12 (nI (A 6 - 1)) cos tim (nI (A 8)) set k (nI y.1) (nI y.2) (nI i) (if i = 0 then nI 0 else (match plc A 0 with | none => nI 0 | some x => nI x.2)) P = _) ∧ _
    by_cases hlt : i < A 8
    · have hy := pst_b hV hi h1
      have hc := p_cheapest (tim := tim) (cos := cos) (R := rw_ A i) (i := i) (f := y.1) (t := y.2) hV hT (by omega) (by omega) (by omega) (hC i hlt) (fun b c h2 h3 => by have := rw_b hV hlt b c h2 h3; omega)
      have hp : plc A i = cp A (rw_ A i) y.1 y.2 := by
        unfold plc
        rw [h1]
      cases hx : cp A (rw_ A i) y.1 y.2 with
      | none =>
        rw [hx] at hc hp
        dsimp only at hc
        have h4 : pst A (i + 1) = none := by rw [pst_s, hp]
        have h6 := pst_no h4 (A 8 - (i + 1))
        rw [show i + 1 + (A 8 - (i + 1)) = A 8 by omega] at h6
        have h7 : pco A = none := by unfold pco; rw [h6]
        rw [h7]
        refine ⟨P, ⟨(if i = 0 then nI 0 else (match plc A 0 with | none => nI 0 | some x => nI x.2)), ?_⟩, fun h => absurd h (by decide)⟩
        simp (disch := omega) only [fa_lit, fa_litL, nI_add, pk_mul, pk_sub, nI_clamp, gi_n, gb_0, gb_1, nI_ltI, nI_leI, nI_eq, lc_lt, lc_gt, lc_ge, lc_le, lc_eq, lN_i, nI_l, lN_add, lN_mul, lN_lt, lN_le, lN_eq, mI_eqR, mI_eqL, mI_ltL, mI_ltR, mI_leL, mI_leR, mI_add, ob1_some, ob2_some, ob3_some, ob4_some, ob5_some, ob6_some, ob7_some, ob8_some, if_true, if_false, if_pos, if_neg, Sum.elim_inl, Sum.elim_inr, un1, un2, un3, un4, un5, Nat.zero_add, Nat.add_zero, Nat.mul_one, Nat.mul_zero, Nat.sub_zero, pk_us, pk_uLs, xoq_l, xoq_r, nI_sle, S_X4_takeBest_12, hc]
      | some x =>
        rw [hx] at hc hp
        dsimp only at hc
        have hb2 := cp_b hV hlt hx
        have h6 := hC i hlt x.1 hb2.2.1
        rw [hb2.2.2.2] at h6
        have h6 : cos (i * 31 + x.1) = nI x.2 := h6
        have h8 : pst A (i + 1) = some (x.1 + 1, sp A (x.1 + 1) + A 5) := by rw [pst_s, hp]
        have ht := hT x.1 hb2.2.1
        have e62 : ∀ z : Int32, F_X4_takeBest_b62 k (nI i) (nI x.1) z (nI (A 6 - 1)) P cos tim (nI (A 8)) set = k (nI (x.1 + 1), nI (sp A (x.1 + 1) + A 5), nI (i + 1), z, upd P i (nI x.1)) := fun z => by
          simp (disch := omega) only [fa_lit, fa_litL, nI_add, pk_mul, pk_sub, nI_clamp, gi_n, gb_0, gb_1, nI_ltI, nI_leI, nI_eq, lc_lt, lc_gt, lc_ge, lc_le, lc_eq, lN_i, nI_l, lN_add, lN_mul, lN_lt, lN_le, lN_eq, mI_eqR, mI_eqL, mI_ltL, mI_ltR, mI_leL, mI_leR, mI_add, ob1_some, ob2_some, ob3_some, ob4_some, ob5_some, ob6_some, ob7_some, ob8_some, if_true, if_false, if_pos, if_neg, Sum.elim_inl, Sum.elim_inr, un1, un2, un3, un4, un5, Nat.zero_add, Nat.add_zero, Nat.mul_one, Nat.mul_zero, Nat.sub_zero, pk_us, pk_uLs, xoq_l, xoq_r, nI_sle, F_X4_takeBest_b62, ht, hR.at]
        have h9 := hk hlt (nI (x.1 + 1), nI (sp A (x.1 + 1) + A 5), nI (i + 1), (if i + 1 = 0 then nI 0 else (match plc A 0 with | none => nI 0 | some x => nI x.2)), upd P i (nI x.1)) ⟨_, upd P i (nI x.1), h8, rfl, fun j z hj hz => ?_⟩
        · rw [if_neg (by omega)] at h9
          by_cases h0 : i = 0
          · subst h0
            rw [hp] at h9
            dsimp only at h9
            rw [Nat.zero_mul, Nat.zero_add] at h6
            rw [if_pos rfl]
            simp (disch := omega) only [fa_lit, fa_litL, nI_add, pk_mul, pk_sub, nI_clamp, gi_n, gb_0, gb_1, nI_ltI, nI_leI, nI_eq, lc_lt, lc_gt, lc_ge, lc_le, lc_eq, lN_i, nI_l, lN_add, lN_mul, lN_lt, lN_le, lN_eq, mI_eqR, mI_eqL, mI_ltL, mI_ltR, mI_leL, mI_leR, mI_add, ob1_some, ob2_some, ob3_some, ob4_some, ob5_some, ob6_some, ob7_some, ob8_some, if_true, if_false, if_pos, if_neg, Sum.elim_inl, Sum.elim_inr, un1, un2, un3, un4, un5, Nat.zero_add, Nat.add_zero, Nat.mul_one, Nat.mul_zero, Nat.sub_zero, pk_us, pk_uLs, xoq_l, xoq_r, nI_sle, S_X4_takeBest_12, hc, h6, e62]
            exact h9
          · rw [if_neg h0]
            simp (disch := omega) only [fa_lit, fa_litL, nI_add, pk_mul, pk_sub, nI_clamp, gi_n, gb_0, gb_1, nI_ltI, nI_leI, nI_eq, lc_lt, lc_gt, lc_ge, lc_le, lc_eq, lN_i, nI_l, lN_add, lN_mul, lN_lt, lN_le, lN_eq, mI_eqR, mI_eqL, mI_ltL, mI_ltR, mI_leL, mI_leR, mI_add, ob1_some, ob2_some, ob3_some, ob4_some, ob5_some, ob6_some, ob7_some, ob8_some, if_true, if_false, if_pos, if_neg, Sum.elim_inl, Sum.elim_inr, un1, un2, un3, un4, un5, Nat.zero_add, Nat.add_zero, Nat.mul_one, Nat.mul_zero, Nat.sub_zero, pk_us, pk_uLs, xoq_l, xoq_r, nI_sle, S_X4_takeBest_12, hc, e62]
            exact h9
        · by_cases h0 : j = i
          · subst h0
            rw [hp] at hz
            cases hz
            exact pk_us
          · rw [pk_un h0]; exact h3 j z (by omega) hz
    · have h8 : i = A 8 := by omega
      subst h8
      have h7 : pco A = some (if A 8 = 0 then 0 else match plc A 0 with | none => 0 | some x => x.2) := by
        unfold pco
        rw [h1]
        by_cases h0 : A 8 = 0
        · dsimp only; rw [if_pos h0, if_pos h0]
        · dsimp only; rw [if_neg h0, if_neg h0]
          cases hx : plc A 0 with
          | some x => rfl
          | none =>
            have h4 : pst A (0 + 1) = none := by rw [pst_s, hx]
            have h6 := pst_no h4 (A 8 - 1)
            rw [show 0 + 1 + (A 8 - 1) = A 8 by omega, h1] at h6
            cases h6
      refine ⟨P, ⟨nI 0, ?_⟩, fun _ j x hj hx => h3 j x hj hx⟩
      rw [h7]
      have e9 : (if A 8 = 0 then nI 0 else (match plc A 0 with | none => nI 0 | some x => nI x.2)) = nI (if A 8 = 0 then 0 else match plc A 0 with | none => 0 | some x => x.2) := by
        by_cases h0 : A 8 = 0
        · rw [if_pos h0, if_pos h0]
        · rw [if_neg h0, if_neg h0]
          cases plc A 0 with
          | none => rfl
          | some x => rfl
      rw [e9]
      simp (disch := omega) only [fa_lit, fa_litL, nI_add, pk_mul, pk_sub, nI_clamp, gi_n, gb_0, gb_1, nI_ltI, nI_leI, nI_eq, lc_lt, lc_gt, lc_ge, lc_le, lc_eq, lN_i, nI_l, lN_add, lN_mul, lN_lt, lN_le, lN_eq, mI_eqR, mI_eqL, mI_ltL, mI_ltR, mI_leL, mI_leR, mI_add, ob1_some, ob2_some, ob3_some, ob4_some, ob5_some, ob6_some, ob7_some, ob8_some, if_true, if_false, if_pos, if_neg, Sum.elim_inl, Sum.elim_inr, un1, un2, un3, un4, un5, Nat.zero_add, Nat.add_zero, Nat.mul_one, Nat.mul_zero, Nat.sub_zero, pk_us, pk_uLs, xoq_l, xoq_r, nI_sle, S_X4_takeBest_12]
  obtain ⟨pl', ⟨z, g1⟩, g2⟩ := key
  refine ⟨pl', ?_, rfl, g2⟩
  unfold F_X4_takeBest
  simp only [fa_lit]
  rw [g1]
  cases pco A with
  | none => rfl
  | some c => rfl
theorem p_placeUpdate (hV : VA A) (h : TR A sc wc ord dur pau siz wor nam) (hR : SR A set) (hQ : QR A ns wi le re) {cc bw : Int32} {fir cat : Nat → Int32} (hS : ∀ s, s ≤ A 6 → st s = nI (sp A s)) (hD : DB A cc bw fir cat) {bc n0' : Int32} {pl cos tim0 cut0 : Nat → Int32} :
    ∃ pl' cos' tim' cut', F_X4_update bc n0' pl cos tim0 cut0 sc ord pau ns wi re set cc cat st = some (oI (pco A), nI (A 6 - 1), pl', cos', tim', cut') ∧ PV A (oI (pco A)) pl' ∧ ∀ b, b + 1 < A 6 → tim' b = nI (sp A (b + 1)) := by
  have hn := hV.n
  have hl := hV.nl
  have hsc := h.1
  have hns := hQ.1
  subst hsc
  obtain ⟨tim', cut', f1, f2, f3⟩ : ∃ tim' cut', wh (fun k q => S_X4_update_13 bc (nI (A 6 - 1)) pl cos ord pau ns wi re set cc cat st k q.1 q.2.1 q.2.2) wF (nI 0, tim0, cut0) = some (tim', cut') ∧ (∀ b, b + 1 < A 6 → tim' b = nI (sp A (b + 1))) ∧ ∀ b, b + 1 < A 6 → cut' b = bI (ctB A b = true) := by
    refine wh_up (A 6 - 1) (by omega) (fun (j : Nat) (q : Int32 × (Nat → Int32) × (Nat → Int32)) => q.1 = nI j ∧ ∀ b, b < j → q.2.1 b = nI (sp A (b + 1)) ∧ q.2.2 b = bI (ctB A b = true)) (fun (o : Option (((Nat → Int32) × (Nat → Int32)))) => ∃ tim' cut', o = some (tim', cut') ∧ (∀ b, b + 1 < A 6 → tim' b = nI (sp A (b + 1))) ∧ ∀ b, b + 1 < A 6 → cut' b = bI (ctB A b = true)) (fun j q hj hI k hk => ?_) (Nat.zero_le _) ⟨rfl, fun b h => absurd h (Nat.not_lt_zero b)⟩
    obtain ⟨l, P1, P2⟩ := q
    obtain ⟨e1, e2⟩ := hI
    have e1 : l = nI j := e1
    subst e1
    have e2 : ∀ b, b < j → P1 b = nI (sp A (b + 1)) ∧ P2 b = bI (ctB A b = true) := e2
    by_cases hlt : j < A 6 - 1
    · have h9 := hk hlt (nI (j + 1), upd P1 j (nI (sp A (j + 1))), upd P2 j (bI (ctB A j = true))) ⟨rfl, fun b hb => ?_⟩
      · simp (disch := omega) only [fa_lit, fa_litL, nI_add, pk_mul, pk_sub, nI_clamp, gi_n, gb_0, gb_1, nI_ltI, nI_leI, nI_eq, lc_lt, lc_gt, lc_ge, lc_le, lc_eq, lN_i, nI_l, lN_add, lN_mul, lN_lt, lN_le, lN_eq, mI_eqR, mI_eqL, mI_ltL, mI_ltR, mI_leL, mI_leR, mI_add, ob1_some, ob2_some, ob3_some, ob4_some, ob5_some, ob6_some, ob7_some, ob8_some, if_true, if_false, if_pos, if_neg, Sum.elim_inl, Sum.elim_inr, un1, un2, un3, un4, un5, Nat.zero_add, Nat.add_zero, Nat.mul_one, Nat.mul_zero, Nat.sub_zero, pk_us, pk_uLs, xoq_l, xoq_r, nI_sle, S_X4_update_13, p_timeOf hV hS, p_isCut hV hD, nar_b]
        exact h9
      · show upd P1 j _ b = _ ∧ upd P2 j _ b = _
        by_cases h0 : b = j
        · subst h0; exact ⟨pk_us, pk_us⟩
        · rw [pk_un h0, pk_un h0]; exact e2 b (by omega)
    · refine ⟨P1, P2, ?_, fun b hb => (e2 b (by omega)).1, fun b hb => (e2 b (by omega)).2⟩
      simp (disch := omega) only [fa_lit, fa_litL, nI_add, pk_mul, pk_sub, nI_clamp, gi_n, gb_0, gb_1, nI_ltI, nI_leI, nI_eq, lc_lt, lc_gt, lc_ge, lc_le, lc_eq, lN_i, nI_l, lN_add, lN_mul, lN_lt, lN_le, lN_eq, mI_eqR, mI_eqL, mI_ltL, mI_ltR, mI_leL, mI_leR, mI_add, ob1_some, ob2_some, ob3_some, ob4_some, ob5_some, ob6_some, ob7_some, ob8_some, if_true, if_false, if_pos, if_neg, Sum.elim_inl, Sum.elim_inr, un1, un2, un3, un4, un5, Nat.zero_add, Nat.add_zero, Nat.mul_one, Nat.mul_zero, Nat.sub_zero, pk_us, pk_uLs, xoq_l, xoq_r, nI_sle, S_X4_update_13]
  obtain ⟨cos', f4, f5⟩ : ∃ cos', wh (fun k q => S_X4_update_59 bc (nI (A 6 - 1)) pl tim' cut' ord pau ns wi re set k q.1 q.2) wF (nI (A 8) - nI 1, cos) = some cos' ∧ ∀ i, i < A 8 → ∀ b, b + 1 < A 6 → cos' (i * 31 + b) = oI (rw_ A i b) := by
    refine wh_up (A 8) (by omega) (fun (d : Nat) (q : Int32 × (Nat → Int32)) => q.1 = nI (A 8 - d) - nI 1 ∧ ∀ i, A 8 ≤ i + d → i < A 8 → ∀ b, b + 1 < A 6 → q.2 (i * 31 + b) = oI (rw_ A i b)) (fun (o : Option (((Nat → Int32)))) => ∃ cos', o = some cos' ∧ ∀ i, i < A 8 → ∀ b, b + 1 < A 6 → cos' (i * 31 + b) = oI (rw_ A i b)) (fun d q hd hI k hk => ?_) (Nat.zero_le _) ⟨rfl, fun i h1 h2 => by omega⟩
    obtain ⟨l, P⟩ := q
    obtain ⟨e1, e2⟩ := hI
    have e1 : l = nI (A 8 - d) - nI 1 := e1
    subst e1
    have e2 : ∀ i, A 8 ≤ i + d → i < A 8 → ∀ b, b + 1 < A 6 → P (i * 31 + b) = oI (rw_ A i b) := e2
    by_cases hlt : d < A 8
    · obtain ⟨i, hi⟩ : ∃ i, i = A 8 - d - 1 := ⟨_, rfl⟩
      obtain ⟨P', g1, g2, g3⟩ : ∃ P', wh (fun k q => S_X4_update_66 (nI i) bc (nI (A 6 - 1)) pl tim' cut' ord pau ns wi re set k q.1 q.2) wF (nI 0, P) = some P' ∧ (∀ b, b + 1 < A 6 → P' (i * 31 + b) = oI (rw_ A i b)) ∧ ∀ j, (i + 1) * 31 ≤ j → P' j = P j := by
        refine wh_up (A 6 - 1) (by omega) (fun (j : Nat) (q : Int32 × (Nat → Int32)) => q.1 = nI j ∧ (∀ b, b < j → q.2 (i * 31 + b) = oI (rw_ A i b)) ∧ ∀ j, (i + 1) * 31 ≤ j → q.2 j = P j) (fun (o : Option (((Nat → Int32)))) => ∃ P', o = some P' ∧ (∀ b, b + 1 < A 6 → P' (i * 31 + b) = oI (rw_ A i b)) ∧ ∀ j, (i + 1) * 31 ≤ j → P' j = P j) (fun j q hj hI k hk => ?_) (Nat.zero_le _) ⟨rfl, fun b h => absurd h (Nat.not_lt_zero b), fun _ _ => rfl⟩
        obtain ⟨l, R⟩ := q
        obtain ⟨e1, e3, e4⟩ := hI
        have e1 : l = nI j := e1
        subst e1
        have e3 : ∀ b, b < j → R (i * 31 + b) = oI (rw_ A i b) := e3
        have e4 : ∀ j, (i + 1) * 31 ≤ j → R j = P j := e4
        by_cases hlt2 : j < A 6 - 1
        · have h6 := p_leastCost (cos := R) (i := i) (b := j) hV h hR hQ f2 f3 (by omega) (by omega) (fun h7 b hb => by
            rw [e4 _ (by omega)]
            exact e2 (i + 1) (by omega) h7 b hb)
          have h9 := hk hlt2 (nI (j + 1), upd R (i * 31 + j) (oI (rw_ A i j))) ⟨rfl, fun b hb => ?_, fun j2 hj2 => ?_⟩
          · simp (disch := omega) only [fa_lit, fa_litL, nI_add, pk_mul, pk_sub, nI_clamp, gi_n, gb_0, gb_1, nI_ltI, nI_leI, nI_eq, lc_lt, lc_gt, lc_ge, lc_le, lc_eq, lN_i, nI_l, lN_add, lN_mul, lN_lt, lN_le, lN_eq, mI_eqR, mI_eqL, mI_ltL, mI_ltR, mI_leL, mI_leR, mI_add, ob1_some, ob2_some, ob3_some, ob4_some, ob5_some, ob6_some, ob7_some, ob8_some, if_true, if_false, if_pos, if_neg, Sum.elim_inl, Sum.elim_inr, un1, un2, un3, un4, un5, Nat.zero_add, Nat.add_zero, Nat.mul_one, Nat.mul_zero, Nat.sub_zero, pk_us, pk_uLs, xoq_l, xoq_r, nI_sle, S_X4_update_66, h6]
            exact h9
          · show upd R (i * 31 + j) _ (i * 31 + b) = _
            by_cases h0 : b = j
            · subst h0; exact pk_us
            · rw [pk_un (by omega)]; exact e3 b (by omega)
          · show upd R (i * 31 + j) _ j2 = _
            rw [pk_un (by omega)]; exact e4 j2 hj2
        · refine ⟨R, ?_, fun b hb => e3 b (by omega), e4⟩
          simp (disch := omega) only [fa_lit, fa_litL, nI_add, pk_mul, pk_sub, nI_clamp, gi_n, gb_0, gb_1, nI_ltI, nI_leI, nI_eq, lc_lt, lc_gt, lc_ge, lc_le, lc_eq, lN_i, nI_l, lN_add, lN_mul, lN_lt, lN_le, lN_eq, mI_eqR, mI_eqL, mI_ltL, mI_ltR, mI_leL, mI_leR, mI_add, ob1_some, ob2_some, ob3_some, ob4_some, ob5_some, ob6_some, ob7_some, ob8_some, if_true, if_false, if_pos, if_neg, Sum.elim_inl, Sum.elim_inr, un1, un2, un3, un4, un5, Nat.zero_add, Nat.add_zero, Nat.mul_one, Nat.mul_zero, Nat.sub_zero, pk_us, pk_uLs, xoq_l, xoq_r, nI_sle, S_X4_update_66]
      have h9 := hk hlt (nI (A 8 - (d + 1)) - nI 1, P') ⟨rfl, fun j h1 h2 b hb => ?_⟩
      · rw [hi] at g1
        simp (disch := omega) only [fa_lit, fa_litL, nI_add, pk_mul, pk_sub, nI_clamp, gi_n, gb_0, gb_1, nI_ltI, nI_leI, nI_eq, lc_lt, lc_gt, lc_ge, lc_le, lc_eq, lN_i, nI_l, lN_add, lN_mul, lN_lt, lN_le, lN_eq, mI_eqR, mI_eqL, mI_ltL, mI_ltR, mI_leL, mI_leR, mI_add, ob1_some, ob2_some, ob3_some, ob4_some, ob5_some, ob6_some, ob7_some, ob8_some, if_true, if_false, if_pos, if_neg, Sum.elim_inl, Sum.elim_inr, un1, un2, un3, un4, un5, Nat.zero_add, Nat.add_zero, Nat.mul_one, Nat.mul_zero, Nat.sub_zero, pk_us, pk_uLs, xoq_l, xoq_r, nI_sle, S_X4_update_59, g1, dn_m1]
        exact h9
      · show P' (j * 31 + b) = oI (rw_ A j b)
        by_cases h0 : j = i
        · subst h0; exact g2 b hb
        · rw [g3 _ (by omega)]; exact e2 j (by omega) h2 b hb
    · have h8 : d = A 8 := by omega
      subst h8
      refine ⟨P, ?_, fun i hi => e2 i (by omega) hi⟩
      have h5 : nI (A 8 - A 8) - nI 1 < nI 0 := by rw [Nat.sub_self]; decide
      unfold S_X4_update_59
      simp only [fa_lit]
      rw [if_pos h5]
  obtain ⟨pl', f6, f7⟩ := p_takePlaces (tim := tim') (set := set) (cos := cos') (pl := pl) (bc := bc) hV hR f2 hns f5
  refine ⟨pl', cos', tim', cut', ?_, f7, f2⟩
  unfold F_X4_update
  simp only [fa_lit]
  rw [p_boundaryCount hn, ob1_some, ob2_s f1, hns, ob1_s (by rw [hns] at f4; exact f4), ob2_s (by rw [hns] at f6; exact f6)]
end
