/-! ===== questions about divisions ===== -/
def wcs (A : Nat → Nat) (c : Nat) : Nat → Int32
  | 0 => nI 0
  | k + 1 => if c / 2 ^ k % 2 = 1 then wcs A c k + (nI (ch A k) - nI (A 3)) else wcs A c k
theorem wcs_s (A : Nat → Nat) (c k : Nat) : wcs A c (k + 1) = if c / 2 ^ k % 2 = 1 then wcs A c k + (nI (ch A k) - nI (A 3)) else wcs A c k := rfl
/-- where the chapter begins that is open behind j segments -/
def fsg (n c : Nat) : Nat → Nat
  | 0 => 0
  | j + 1 => if j + 1 = n ∨ c / 2 ^ j % 2 = 1 then j + 1 else fsg n c j
theorem fsg_s (n c j : Nat) : fsg n c (j + 1) = if j + 1 = n ∨ c / 2 ^ j % 2 = 1 then j + 1 else fsg n c j := rfl
theorem fsg_le (n c : Nat) : ∀ j, fsg n c j ≤ j := by
  intro j
  induction j with
  | zero => exact Nat.le_refl 0
  | succ j ih => rw [fsg_s]; split <;> omega
def alB (A : Nat → Nat) (c : Nat) : Nat → Bool
  | 0 => true
  | j + 1 => if j + 1 = A 6 ∨ c / 2 ^ j % 2 = 1 then (alB A c j && decide (lg A (fsg (A 6) c j) j)) else alB A c j
theorem alB_s (A : Nat → Nat) (c j : Nat) : alB A c (j + 1) = if j + 1 = A 6 ∨ c / 2 ^ j % 2 = 1 then (alB A c j && decide (lg A (fsg (A 6) c j) j)) else alB A c j := rfl
theorem alB_f {A : Nat → Nat} {c j : Nat} (h : alB A c j = false) : ∀ d, alB A c (j + d) = false := by
  intro d
  induction d with
  | zero => exact h
  | succ d ih =>
    rw [show j + (d + 1) = (j + d) + 1 from rfl, alB_s, ih]
    split <;> rfl
def ctB (A : Nat → Nat) (b : Nat) : Bool :=
  match tbl A 0 with
  | none => false
  | some x => (List.range x.2.1).any (fun k => bg (tbl A) (k + 1) == b + 1)
theorem ctB_iff {A : Nat → Nat} {b : Nat} {x : Int × Nat × Nat} (h : tbl A 0 = some x) : ctB A b = true ↔ ∃ k, k < x.2.1 ∧ bg (tbl A) (k + 1) = b + 1 := by
  unfold ctB
  rw [h]
  constructor
  · intro h1
    obtain ⟨k, h2, h3⟩ := List.any_eq_true.mp h1
    exact ⟨k, List.mem_range.mp h2, by simpa using h3⟩
  · rintro ⟨k, h2, h3⟩
    exact List.any_eq_true.mpr ⟨k, List.mem_range.mpr h2, by simpa using h3⟩
section
variable {A : Nat → Nat} {st chg : Nat → Int32} {a : Nat → Int64}
theorem p_lastOf {x : Int × Nat × Nat} {fir : Nat → Int32} (hV : VA A) (hx : tbl A 0 = some x) (hf : ∀ k, k ≤ x.2.1 → fir k = nI (bg (tbl A) k)) {k : Nat} (hk : k ≤ x.2.1) : F_X0_lastOf (nI k) (nI (x.2.1 + 1)) (nI (A 6)) fir = some (nI (en (tbl A) (bg (tbl A) k))) := by
  have hn := hV.n
  have hc := tbl_cht hx
  have hK := hc.K
  have h1 := bg_s (tbl A) k
  by_cases h2 : k = x.2.1
  · have h3 := hc.2
    rw [← h2, h1] at h3
    simp (disch := omega) only [fa_lit, fa_litL, nI_add, pk_mul, pk_sub, nI_clamp, gi_n, gb_0, gb_1, nI_ltI, nI_leI, nI_eq, lc_lt, lc_gt, lc_ge, lc_le, lc_eq, lN_i, nI_l, lN_add, lN_mul, lN_lt, lN_le, lN_eq, mI_eqR, mI_eqL, mI_ltL, mI_ltR, mI_leL, mI_leR, mI_add, ob1_some, ob2_some, ob3_some, ob4_some, ob5_some, ob6_some, ob7_some, ob8_some, if_true, if_false, if_pos, if_neg, Sum.elim_inl, Sum.elim_inr, un1, un2, un3, un4, un5, Nat.zero_add, Nat.add_zero, Nat.mul_one, Nat.mul_zero, Nat.sub_zero, pk_us, pk_uLs, xoq_l, xoq_r, nI_sle, F_X0_lastOf]
    rw [← h3, Nat.add_sub_cancel]
  · have h3 := hf (k + 1) (by omega)
    have h4 := (hc.1 (k + 1) (by omega)).1
    simp (disch := omega) only [fa_lit, fa_litL, nI_add, pk_mul, pk_sub, nI_clamp, gi_n, gb_0, gb_1, nI_ltI, nI_leI, nI_eq, lc_lt, lc_gt, lc_ge, lc_le, lc_eq, lN_i, nI_l, lN_add, lN_mul, lN_lt, lN_le, lN_eq, mI_eqR, mI_eqL, mI_ltL, mI_ltR, mI_leL, mI_leR, mI_add, ob1_some, ob2_some, ob3_some, ob4_some, ob5_some, ob6_some, ob7_some, ob8_some, if_true, if_false, if_pos, if_neg, Sum.elim_inl, Sum.elim_inr, un1, un2, un3, un4, un5, Nat.zero_add, Nat.add_zero, Nat.mul_one, Nat.mul_zero, Nat.sub_zero, pk_us, pk_uLs, xoq_l, xoq_r, nI_sle, F_X0_lastOf, h3]
    rw [h1, Nat.add_sub_cancel]
theorem p_isCut {cc bw : Int32} {fir cat : Nat → Int32} (hV : VA A) (hD : DB A cc bw fir cat) {b : Nat} (hb : b + 1 < A 6) : F_X0_isCut (nI b) cc cat = some (bI (ctB A b = true)) := by
  have hn := hV.n
  unfold DB at hD
  cases hx : tbl A 0 with
  | none =>
    rw [hx] at hD
    have hD : cc = nI 0 := hD
    rw [bI_0 (by unfold ctB; rw [hx]; exact Bool.false_ne_true)]
    subst hD
    simp (disch := omega) only [fa_lit, fa_litL, nI_add, pk_mul, pk_sub, nI_clamp, gi_n, gb_0, gb_1, nI_ltI, nI_leI, nI_eq, lc_lt, lc_gt, lc_ge, lc_le, lc_eq, lN_i, nI_l, lN_add, lN_mul, lN_lt, lN_le, lN_eq, mI_eqR, mI_eqL, mI_ltL, mI_ltR, mI_leL, mI_leR, mI_add, ob1_some, ob2_some, ob3_some, ob4_some, ob5_some, ob6_some, ob7_some, ob8_some, if_true, if_false, if_pos, if_neg, Sum.elim_inl, Sum.elim_inr, un1, un2, un3, un4, un5, Nat.zero_add, Nat.add_zero, Nat.mul_one, Nat.mul_zero, Nat.sub_zero, pk_us, pk_uLs, xoq_l, xoq_r, nI_sle, F_X0_isCut]
  | some x =>
    rw [hx] at hD
    obtain ⟨h1, h2, h3, h4⟩ := hD
    have hc := tbl_cht hx
    have hK := hc.K
    obtain ⟨k, g1, g2, g3⟩ := hc.ex (t := b) (by omega)
    obtain ⟨k', g4, g5, g6⟩ := hc.ex (t := b + 1) hb
    have e1 := h4 b k g1 g2 g3
    have e2 := h4 (b + 1) k' g4 g5 g6
    subst h1
    by_cases h5 : bg (tbl A) (k + 1) = b + 1
    · have h6 : k < x.2.1 := by
        rcases Nat.lt_or_ge k x.2.1 with h | h
        · exact h
        · have h7 : k = x.2.1 := by omega
          subst h7
          rw [hc.2] at h5; omega
      have h8 : k' ≠ k := fun h => by subst h; omega
      rw [bI_1 ((ctB_iff hx).mpr ⟨k, h6, h5⟩)]
      simp (disch := omega) only [fa_lit, fa_litL, nI_add, pk_mul, pk_sub, nI_clamp, gi_n, gb_0, gb_1, nI_ltI, nI_leI, nI_eq, lc_lt, lc_gt, lc_ge, lc_le, lc_eq, lN_i, nI_l, lN_add, lN_mul, lN_lt, lN_le, lN_eq, mI_eqR, mI_eqL, mI_ltL, mI_ltR, mI_leL, mI_leR, mI_add, ob1_some, ob2_some, ob3_some, ob4_some, ob5_some, ob6_some, ob7_some, ob8_some, if_true, if_false, if_pos, if_neg, Sum.elim_inl, Sum.elim_inr, un1, un2, un3, un4, un5, Nat.zero_add, Nat.add_zero, Nat.mul_one, Nat.mul_zero, Nat.sub_zero, pk_us, pk_uLs, xoq_l, xoq_r, nI_sle, F_X0_isCut, e1, e2]
    · have h8 : k' = k := hc.one (t := b + 1) g4 g1 g5 g6 (by omega) (by omega)
      rw [bI_0 (fun h => by
        obtain ⟨i, i1, i2⟩ := (ctB_iff hx).mp h
        have h9 : bg (tbl A) i < b + 1 := by rw [← i2]; exact hc.up (by omega)
        have h10 : i = k := hc.one (t := b) (by omega) g1 (by omega) (by omega) g2 g3
        subst h10
        exact h5 i2)]
      subst h8
      simp (disch := omega) only [fa_lit, fa_litL, nI_add, pk_mul, pk_sub, nI_clamp, gi_n, gb_0, gb_1, nI_ltI, nI_leI, nI_eq, lc_lt, lc_gt, lc_ge, lc_le, lc_eq, lN_i, nI_l, lN_add, lN_mul, lN_lt, lN_le, lN_eq, mI_eqR, mI_eqL, mI_ltL, mI_ltR, mI_leL, mI_leR, mI_add, ob1_some, ob2_some, ob3_some, ob4_some, ob5_some, ob6_some, ob7_some, ob8_some, if_true, if_false, if_pos, if_neg, Sum.elim_inl, Sum.elim_inr, un1, un2, un3, un4, un5, Nat.zero_add, Nat.add_zero, Nat.mul_one, Nat.mul_zero, Nat.sub_zero, pk_us, pk_uLs, xoq_l, xoq_r, nI_sle, F_X0_isCut, e1, e2]
theorem p_timeOf (hV : VA A) (hS : ∀ s, s ≤ A 6 → st s = nI (sp A s)) {b : Nat} (hb : b < A 6) : F_X0_timeOf (nI b) st = some (nI (sp A (b + 1))) := by
  have hn := hV.n
  simp (disch := omega) only [fa_lit, fa_litL, nI_add, pk_mul, pk_sub, nI_clamp, gi_n, gb_0, gb_1, nI_ltI, nI_leI, nI_eq, lc_lt, lc_gt, lc_ge, lc_le, lc_eq, lN_i, nI_l, lN_add, lN_mul, lN_lt, lN_le, lN_eq, mI_eqR, mI_eqL, mI_ltL, mI_ltR, mI_leL, mI_leR, mI_add, ob1_some, ob2_some, ob3_some, ob4_some, ob5_some, ob6_some, ob7_some, ob8_some, if_true, if_false, if_pos, if_neg, Sum.elim_inl, Sum.elim_inr, un1, un2, un3, un4, un5, Nat.zero_add, Nat.add_zero, Nat.mul_one, Nat.mul_zero, Nat.sub_zero, pk_us, pk_uLs, xoq_l, xoq_r, nI_sle, F_X0_timeOf, hS]
theorem p_worthOfCuts (hV : VA A) (hC : ∀ e, e + 1 < A 6 → chg e = nI (ch A e)) {c : Nat} (hc : c < 2 ^ 31) : F_X0_worthOfCuts (nI c) (nI (A 3)) (nI (A 6)) chg = some (wcs A c (A 6 - 1)) := by
  have hn := hV.n
  unfold F_X0_worthOfCuts
  refine ob1_t (whf (fun j => (wcs A c j, nI j)) 0 (A 6 - 1) rfl (by omega) (by omega) (fun j _ hj k => ?_) (fun k => ?_)) rfl
  · have h1 := hC j (by omega)
    by_cases h2 : c / 2 ^ j % 2 = 1
    · rw [wcs_s, if_pos h2]
      simp (disch := omega) only [fa_lit, fa_litL, nI_add, pk_mul, pk_sub, nI_clamp, gi_n, gb_0, gb_1, nI_ltI, nI_leI, nI_eq, lc_lt, lc_gt, lc_ge, lc_le, lc_eq, lN_i, nI_l, lN_add, lN_mul, lN_lt, lN_le, lN_eq, mI_eqR, mI_eqL, mI_ltL, mI_ltR, mI_leL, mI_leR, mI_add, ob1_some, ob2_some, ob3_some, ob4_some, ob5_some, ob6_some, ob7_some, ob8_some, if_true, if_false, if_pos, if_neg, Sum.elim_inl, Sum.elim_inr, un1, un2, un3, un4, un5, Nat.zero_add, Nat.add_zero, Nat.mul_one, Nat.mul_zero, Nat.sub_zero, pk_us, pk_uLs, xoq_l, xoq_r, nI_sle, S_X0_worthOfCuts_5, nI_sle, bt_u, h1]
    · rw [wcs_s, if_neg h2]
      simp (disch := omega) only [fa_lit, fa_litL, nI_add, pk_mul, pk_sub, nI_clamp, gi_n, gb_0, gb_1, nI_ltI, nI_leI, nI_eq, lc_lt, lc_gt, lc_ge, lc_le, lc_eq, lN_i, nI_l, lN_add, lN_mul, lN_lt, lN_le, lN_eq, mI_eqR, mI_eqL, mI_ltL, mI_ltR, mI_leL, mI_leR, mI_add, ob1_some, ob2_some, ob3_some, ob4_some, ob5_some, ob6_some, ob7_some, ob8_some, if_true, if_false, if_pos, if_neg, Sum.elim_inl, Sum.elim_inr, un1, un2, un3, un4, un5, Nat.zero_add, Nat.add_zero, Nat.mul_one, Nat.mul_zero, Nat.sub_zero, pk_us, pk_uLs, xoq_l, xoq_r, nI_sle, S_X0_worthOfCuts_5, nI_sle, bt_u, h1]
  · simp (disch := omega) only [fa_lit, fa_litL, nI_add, pk_mul, pk_sub, nI_clamp, gi_n, gb_0, gb_1, nI_ltI, nI_leI, nI_eq, lc_lt, lc_gt, lc_ge, lc_le, lc_eq, lN_i, nI_l, lN_add, lN_mul, lN_lt, lN_le, lN_eq, mI_eqR, mI_eqL, mI_ltL, mI_ltR, mI_leL, mI_leR, mI_add, ob1_some, ob2_some, ob3_some, ob4_some, ob5_some, ob6_some, ob7_some, ob8_some, if_true, if_false, if_pos, if_neg, Sum.elim_inl, Sum.elim_inr, un1, un2, un3, un4, un5, Nat.zero_add, Nat.add_zero, Nat.mul_one, Nat.mul_zero, Nat.sub_zero, pk_us, pk_uLs, xoq_l, xoq_r, nI_sle, S_X0_worthOfCuts_5, nI_sle]
theorem p_allows (hV : VA A) (hS : ∀ s, s ≤ A 6 → st s = nI (sp A s)) {c : Nat} (hc : c < 2 ^ 31) : F_X0_allows (nI c) (nI (A 6)) (nI (A 0)) (nI (A 1)) st = some (bI (0 < A 6 ∧ alB A c (A 6) = true)) := by
  have hn := hV.n
  have key : wh (fun k q => S_X0_allows_4 (nI c) (nI (A 6)) (nI (A 0)) (nI (A 1)) st k q.1 q.2) wF (nI 0, nI 0) = some (if alB A c (A 6) = true then .inr () else .inl ()) := by
    refine wh_up (A 6) (by omega) (fun (j : Nat) (q : Int32 × Int32) => q = (nI (fsg (A 6) c j), nI j) ∧ alB A c j = true) (fun (o : Option ((Unit) ⊕ (Unit))) => o = some (if alB A c (A 6) = true then .inr () else .inl ())) (fun j q hj hI k hk => ?_) (Nat.zero_le _) ⟨rfl, rfl⟩
    obtain ⟨rfl, h1⟩ := hI
    have h2 := fsg_le (A 6) c j
    by_cases hlt : j < A 6
    · have h3 := p_isLongEnough hV hS (s := fsg (A 6) c j) (e := j) h2 hlt
      by_cases h4 : j + 1 = A 6 ∨ c / 2 ^ j % 2 = 1
      · have e1 : S_X0_allows_4 (nI c) (nI (A 6)) (nI (A 0)) (nI (A 1)) st k (nI (fsg (A 6) c j)) (nI j) = F_X0_allows_b31 k (nI c) (nI (fsg (A 6) c j)) (nI j) (nI (A 6)) (nI (A 0)) (nI (A 1)) st := by
          by_cases h6 : j + 1 = A 6
          · simp (disch := omega) only [fa_lit, fa_litL, nI_add, pk_mul, pk_sub, nI_clamp, gi_n, gb_0, gb_1, nI_ltI, nI_leI, nI_eq, lc_lt, lc_gt, lc_ge, lc_le, lc_eq, lN_i, nI_l, lN_add, lN_mul, lN_lt, lN_le, lN_eq, mI_eqR, mI_eqL, mI_ltL, mI_ltR, mI_leL, mI_leR, mI_add, ob1_some, ob2_some, ob3_some, ob4_some, ob5_some, ob6_some, ob7_some, ob8_some, if_true, if_false, if_pos, if_neg, Sum.elim_inl, Sum.elim_inr, un1, un2, un3, un4, un5, Nat.zero_add, Nat.add_zero, Nat.mul_one, Nat.mul_zero, Nat.sub_zero, pk_us, pk_uLs, xoq_l, xoq_r, nI_sle, S_X0_allows_4]
          · simp (disch := omega) only [fa_lit, fa_litL, nI_add, pk_mul, pk_sub, nI_clamp, gi_n, gb_0, gb_1, nI_ltI, nI_leI, nI_eq, lc_lt, lc_gt, lc_ge, lc_le, lc_eq, lN_i, nI_l, lN_add, lN_mul, lN_lt, lN_le, lN_eq, mI_eqR, mI_eqL, mI_ltL, mI_ltR, mI_leL, mI_leR, mI_add, ob1_some, ob2_some, ob3_some, ob4_some, ob5_some, ob6_some, ob7_some, ob8_some, if_true, if_false, if_pos, if_neg, Sum.elim_inl, Sum.elim_inr, un1, un2, un3, un4, un5, Nat.zero_add, Nat.add_zero, Nat.mul_one, Nat.mul_zero, Nat.sub_zero, pk_us, pk_uLs, xoq_l, xoq_r, nI_sle, S_X0_allows_4, bt_u]
        show S_X0_allows_4 (nI c) (nI (A 6)) (nI (A 0)) (nI (A 1)) st k (nI (fsg (A 6) c j)) (nI j) = _
        rw [e1]
        by_cases h5 : lg A (fsg (A 6) c j) j
        · rw [bI_1 h5] at h3
          have h9 := hk hlt (nI (fsg (A 6) c (j + 1)), nI (j + 1)) ⟨rfl, by rw [alB_s, if_pos h4, h1, decide_eq_true h5]; rfl⟩
          rw [fsg_s, if_pos h4] at h9
          simp (disch := omega) only [fa_lit, fa_litL, nI_add, pk_mul, pk_sub, nI_clamp, gi_n, gb_0, gb_1, nI_ltI, nI_leI, nI_eq, lc_lt, lc_gt, lc_ge, lc_le, lc_eq, lN_i, nI_l, lN_add, lN_mul, lN_lt, lN_le, lN_eq, mI_eqR, mI_eqL, mI_ltL, mI_ltR, mI_leL, mI_leR, mI_add, ob1_some, ob2_some, ob3_some, ob4_some, ob5_some, ob6_some, ob7_some, ob8_some, if_true, if_false, if_pos, if_neg, Sum.elim_inl, Sum.elim_inr, un1, un2, un3, un4, un5, Nat.zero_add, Nat.add_zero, Nat.mul_one, Nat.mul_zero, Nat.sub_zero, pk_us, pk_uLs, xoq_l, xoq_r, nI_sle, F_X0_allows_b31, h3]
          exact h9
        · rw [bI_0 h5] at h3
          have h7 : alB A c (j + 1) = false := by rw [alB_s, if_pos h4, decide_eq_false h5, Bool.and_false]
          have h8 := alB_f h7 (A 6 - (j + 1))
          rw [show j + 1 + (A 6 - (j + 1)) = A 6 by omega] at h8
          rw [h8]
          simp (disch := omega) only [fa_lit, fa_litL, nI_add, pk_mul, pk_sub, nI_clamp, gi_n, gb_0, gb_1, nI_ltI, nI_leI, nI_eq, lc_lt, lc_gt, lc_ge, lc_le, lc_eq, lN_i, nI_l, lN_add, lN_mul, lN_lt, lN_le, lN_eq, mI_eqR, mI_eqL, mI_ltL, mI_ltR, mI_leL, mI_leR, mI_add, ob1_some, ob2_some, ob3_some, ob4_some, ob5_some, ob6_some, ob7_some, ob8_some, if_true, if_false, if_pos, if_neg, Sum.elim_inl, Sum.elim_inr, un1, un2, un3, un4, un5, Nat.zero_add, Nat.add_zero, Nat.mul_one, Nat.mul_zero, Nat.sub_zero, pk_us, pk_uLs, xoq_l, xoq_r, nI_sle, F_X0_allows_b31, h3]
          rfl
      · have h9 := hk hlt (nI (fsg (A 6) c (j + 1)), nI (j + 1)) ⟨rfl, by rw [alB_s, if_neg h4]; exact h1⟩
        rw [fsg_s, if_neg h4] at h9
        simp (disch := omega) only [fa_lit, fa_litL, nI_add, pk_mul, pk_sub, nI_clamp, gi_n, gb_0, gb_1, nI_ltI, nI_leI, nI_eq, lc_lt, lc_gt, lc_ge, lc_le, lc_eq, lN_i, nI_l, lN_add, lN_mul, lN_lt, lN_le, lN_eq, mI_eqR, mI_eqL, mI_ltL, mI_ltR, mI_leL, mI_leR, mI_add, ob1_some, ob2_some, ob3_some, ob4_some, ob5_some, ob6_some, ob7_some, ob8_some, if_true, if_false, if_pos, if_neg, Sum.elim_inl, Sum.elim_inr, un1, un2, un3, un4, un5, Nat.zero_add, Nat.add_zero, Nat.mul_one, Nat.mul_zero, Nat.sub_zero, pk_us, pk_uLs, xoq_l, xoq_r, nI_sle, S_X0_allows_4, bt_u]
        exact h9
    · have h8 : j = A 6 := by omega
      subst h8
      rw [h1, if_pos rfl]
      simp (disch := omega) only [fa_lit, fa_litL, nI_add, pk_mul, pk_sub, nI_clamp, gi_n, gb_0, gb_1, nI_ltI, nI_leI, nI_eq, lc_lt, lc_gt, lc_ge, lc_le, lc_eq, lN_i, nI_l, lN_add, lN_mul, lN_lt, lN_le, lN_eq, mI_eqR, mI_eqL, mI_ltL, mI_ltR, mI_leL, mI_leR, mI_add, ob1_some, ob2_some, ob3_some, ob4_some, ob5_some, ob6_some, ob7_some, ob8_some, if_true, if_false, if_pos, if_neg, Sum.elim_inl, Sum.elim_inr, un1, un2, un3, un4, un5, Nat.zero_add, Nat.add_zero, Nat.mul_one, Nat.mul_zero, Nat.sub_zero, pk_us, pk_uLs, xoq_l, xoq_r, nI_sle, S_X0_allows_4]
  unfold F_X0_allows
  simp only [fa_lit]
  rw [key]
  by_cases h1 : alB A c (A 6) = true
  · rw [if_pos h1]
    by_cases h2 : 0 < A 6
    · rw [bI_1 ⟨h2, h1⟩]; simp (disch := omega) only [fa_lit, fa_litL, nI_add, pk_mul, pk_sub, nI_clamp, gi_n, gb_0, gb_1, nI_ltI, nI_leI, nI_eq, lc_lt, lc_gt, lc_ge, lc_le, lc_eq, lN_i, nI_l, lN_add, lN_mul, lN_lt, lN_le, lN_eq, mI_eqR, mI_eqL, mI_ltL, mI_ltR, mI_leL, mI_leR, mI_add, ob1_some, ob2_some, ob3_some, ob4_some, ob5_some, ob6_some, ob7_some, ob8_some, if_true, if_false, if_pos, if_neg, Sum.elim_inl, Sum.elim_inr, un1, un2, un3, un4, un5, Nat.zero_add, Nat.add_zero, Nat.mul_one, Nat.mul_zero, Nat.sub_zero, pk_us, pk_uLs, xoq_l, xoq_r, nI_sle]
    · rw [bI_0 (fun h => h2 h.1)]; simp (disch := omega) only [fa_lit, fa_litL, nI_add, pk_mul, pk_sub, nI_clamp, gi_n, gb_0, gb_1, nI_ltI, nI_leI, nI_eq, lc_lt, lc_gt, lc_ge, lc_le, lc_eq, lN_i, nI_l, lN_add, lN_mul, lN_lt, lN_le, lN_eq, mI_eqR, mI_eqL, mI_ltL, mI_ltR, mI_leL, mI_leR, mI_add, ob1_some, ob2_some, ob3_some, ob4_some, ob5_some, ob6_some, ob7_some, ob8_some, if_true, if_false, if_pos, if_neg, Sum.elim_inl, Sum.elim_inr, un1, un2, un3, un4, un5, Nat.zero_add, Nat.add_zero, Nat.mul_one, Nat.mul_zero, Nat.sub_zero, pk_us, pk_uLs, xoq_l, xoq_r, nI_sle]
  · rw [if_neg h1, bI_0 (fun h => h1 h.2)]; simp (disch := omega) only [fa_lit, fa_litL, nI_add, pk_mul, pk_sub, nI_clamp, gi_n, gb_0, gb_1, nI_ltI, nI_leI, nI_eq, lc_lt, lc_gt, lc_ge, lc_le, lc_eq, lN_i, nI_l, lN_add, lN_mul, lN_lt, lN_le, lN_eq, mI_eqR, mI_eqL, mI_ltL, mI_ltR, mI_leL, mI_leR, mI_add, ob1_some, ob2_some, ob3_some, ob4_some, ob5_some, ob6_some, ob7_some, ob8_some, if_true, if_false, if_pos, if_neg, Sum.elim_inl, Sum.elim_inr, un1, un2, un3, un4, un5, Nat.zero_add, Nat.add_zero, Nat.mul_one, Nat.mul_zero, Nat.sub_zero, pk_us, pk_uLs, xoq_l, xoq_r, nI_sle]
theorem okc_32 {s e : Nat} (he : e < 32) : okc A 32 32 s e = true ↔ lg A s e := ⟨fun h => (okc_iff.mp h).1, fun h => okc_iff.mpr ⟨h, by omega, by omega⟩⟩
/-- the number of the allowed divisions -/
def nwy (A : Nat → Nat) : Int64 := if A 6 = 0 then lN 0 else wTb (A 6) (okc A 32 32) (A 6) 0
theorem p_countIn2 (hV : VA A) (hS : ∀ s, s ≤ A 6 → st s = nI (sp A s)) {s : Nat} {TW Y : Nat → Int64} (hs : s < A 6) (hY : Y s = lN 0) (hn1 : Y (A 6) = lN 1) (hTY : ∀ t, s < t → t < A 6 → Y t = TW t) :
    ∃ Y', wh (fun k q => S_X0_countAllowed_30 (nI s) (nI (A 6)) (nI (A 0)) (nI (A 1)) st k q.1 q.2) wF (nI s, Y) = some Y' ∧ Y' s = wIn (A 6) (okc A 32 32) TW s (A 6 - s) ∧ ∀ t, t ≠ s → Y' t = Y t := by
  have hn := hV.n
  refine wh_up (A 6 - s) (by omega) (fun (j : Nat) (q : Int32 × (Nat → Int64)) => q.1 = nI (s + j) ∧ q.2 s = wIn (A 6) (okc A 32 32) TW s j ∧ ∀ t, t ≠ s → q.2 t = Y t) (fun (o : Option (((Nat → Int64)))) => ∃ Y', o = some Y' ∧ Y' s = wIn (A 6) (okc A 32 32) TW s (A 6 - s) ∧ ∀ t, t ≠ s → Y' t = Y t) (fun j q hj hI k hk => ?_) (Nat.zero_le _) ⟨rfl, hY, fun t _ => rfl⟩
  obtain ⟨l, P⟩ := q
  obtain ⟨e1, e2, e3⟩ := hI
  have e1 : l = nI (s + j) := e1
  subst e1
  have e2 : P s = wIn (A 6) (okc A 32 32) TW s j := e2
  have e3 : ∀ t, t ≠ s → P t = Y t := e3
  by_cases hlt : j < A 6 - s
  · have hl := p_isLongEnough hV hS (s := s) (e := s + j) (by omega) (by omega)
    by_cases hok : lg A s (s + j)
    · rw [bI_1 hok] at hl
      have h9 := hk hlt (nI (s + j + 1), vp_updL P s (P s + P (s + j + 1))) ⟨rfl, ?_, fun t ht => (pk_uLn ht).trans (e3 t ht)⟩
      · simp (disch := omega) only [fa_lit, fa_litL, nI_add, pk_mul, pk_sub, nI_clamp, gi_n, gb_0, gb_1, nI_ltI, nI_leI, nI_eq, lc_lt, lc_gt, lc_ge, lc_le, lc_eq, lN_i, nI_l, lN_add, lN_mul, lN_lt, lN_le, lN_eq, mI_eqR, mI_eqL, mI_ltL, mI_ltR, mI_leL, mI_leR, mI_add, ob1_some, ob2_some, ob3_some, ob4_some, ob5_some, ob6_some, ob7_some, ob8_some, if_true, if_false, if_pos, if_neg, Sum.elim_inl, Sum.elim_inr, un1, un2, un3, un4, un5, Nat.zero_add, Nat.add_zero, Nat.mul_one, Nat.mul_zero, Nat.sub_zero, pk_us, pk_uLs, xoq_l, xoq_r, nI_sle, S_X0_countAllowed_30, hl]
        exact h9
      · show vp_updL P s (P s + P (s + j + 1)) s = _
        rw [pk_uLs, wIn_s, if_pos ((okc_32 (by omega)).mpr hok), e2, e3 (s + j + 1) (by omega)]
        by_cases h5 : s + j + 1 = A 6
        · rw [if_pos h5, h5, hn1]
        · rw [if_neg h5, hTY _ (by omega) (by omega)]
    · rw [bI_0 hok] at hl
      have h9 := hk hlt (nI (s + j + 1), P) ⟨rfl, ?_, e3⟩
      · simp (disch := omega) only [fa_lit, fa_litL, nI_add, pk_mul, pk_sub, nI_clamp, gi_n, gb_0, gb_1, nI_ltI, nI_leI, nI_eq, lc_lt, lc_gt, lc_ge, lc_le, lc_eq, lN_i, nI_l, lN_add, lN_mul, lN_lt, lN_le, lN_eq, mI_eqR, mI_eqL, mI_ltL, mI_ltR, mI_leL, mI_leR, mI_add, ob1_some, ob2_some, ob3_some, ob4_some, ob5_some, ob6_some, ob7_some, ob8_some, if_true, if_false, if_pos, if_neg, Sum.elim_inl, Sum.elim_inr, un1, un2, un3, un4, un5, Nat.zero_add, Nat.add_zero, Nat.mul_one, Nat.mul_zero, Nat.sub_zero, pk_us, pk_uLs, xoq_l, xoq_r, nI_sle, S_X0_countAllowed_30, hl]
        exact h9
      · show P s = _
        rw [wIn_s, if_neg (fun h => hok ((okc_32 (by omega)).mp h)), e2]
  · have h8 : j = A 6 - s := by omega
    subst h8
    refine ⟨P, ?_, e2, e3⟩
    simp (disch := omega) only [fa_lit, fa_litL, nI_add, pk_mul, pk_sub, nI_clamp, gi_n, gb_0, gb_1, nI_ltI, nI_leI, nI_eq, lc_lt, lc_gt, lc_ge, lc_le, lc_eq, lN_i, nI_l, lN_add, lN_mul, lN_lt, lN_le, lN_eq, mI_eqR, mI_eqL, mI_ltL, mI_ltR, mI_leL, mI_leR, mI_add, ob1_some, ob2_some, ob3_some, ob4_some, ob5_some, ob6_some, ob7_some, ob8_some, if_true, if_false, if_pos, if_neg, Sum.elim_inl, Sum.elim_inr, un1, un2, un3, un4, un5, Nat.zero_add, Nat.add_zero, Nat.mul_one, Nat.mul_zero, Nat.sub_zero, pk_us, pk_uLs, xoq_l, xoq_r, nI_sle, S_X0_countAllowed_30]
theorem p_countAllowed (hV : VA A) (hS : ∀ s, s ≤ A 6 → st s = nI (sp A s)) {Y : Nat → Int64} : ∃ Y', F_X0_countAllowed (nI (A 6)) (nI (A 0)) (nI (A 1)) st Y = some (nwy A, Y') := by
  have hn := hV.n
  have key : ∃ Y', wh (fun k q => S_X0_countAllowed_17 (nI (A 6)) (nI (A 0)) (nI (A 1)) st k q.1 q.2) wF (nI (A 6) - nI 1, vp_updL Y (A 6) (lN 1)) = some Y' ∧ ∀ t, t < A 6 → Y' t = wTb (A 6) (okc A 32 32) (A 6) t := by
    refine wh_up (A 6) (by omega) (fun (d : Nat) (q : Int32 × (Nat → Int64)) => q.1 = nI (A 6 - d) - nI 1 ∧ q.2 (A 6) = lN 1 ∧ ∀ t, A 6 ≤ t + d → t < A 6 → q.2 t = wTb (A 6) (okc A 32 32) d t) (fun (o : Option (((Nat → Int64)))) => ∃ Y', o = some Y' ∧ ∀ t, t < A 6 → Y' t = wTb (A 6) (okc A 32 32) (A 6) t) (fun d q hd hI k hk => ?_) (Nat.zero_le _) ⟨rfl, pk_uLs, fun t h1 h2 => by omega⟩
    obtain ⟨l, P⟩ := q
    obtain ⟨e1, e3, e2⟩ := hI
    have e1 : l = nI (A 6 - d) - nI 1 := e1
    subst e1
    have e3 : P (A 6) = lN 1 := e3
    have e2 : ∀ t, A 6 ≤ t + d → t < A 6 → P t = wTb (A 6) (okc A 32 32) d t := e2
    by_cases hlt : d < A 6
    · obtain ⟨Y', g1, g2, g3⟩ := p_countIn2 (s := A 6 - (d + 1)) (TW := wTb (A 6) (okc A 32 32) d) (Y := vp_updL P (A 6 - (d + 1)) (lN 0)) hV hS (by omega) pk_uLs ((pk_uLn (by omega)).trans e3) (fun t h1 h2 => by
        rw [pk_uLn (by omega)]
        exact e2 t (by omega) h2)
      have h9 := hk hlt (nI (A 6 - (d + 1)) - nI 1, Y') ⟨rfl, (g3 _ (by omega)).trans ((pk_uLn (by omega)).trans e3), fun t h1 h2 => ?_⟩
      · have h7 : A 6 - d - 1 = A 6 - (d + 1) := by omega
        rw [← h7] at g1
        simp (disch := omega) only [fa_lit, fa_litL, nI_add, pk_mul, pk_sub, nI_clamp, gi_n, gb_0, gb_1, nI_ltI, nI_leI, nI_eq, lc_lt, lc_gt, lc_ge, lc_le, lc_eq, lN_i, nI_l, lN_add, lN_mul, lN_lt, lN_le, lN_eq, mI_eqR, mI_eqL, mI_ltL, mI_ltR, mI_leL, mI_leR, mI_add, ob1_some, ob2_some, ob3_some, ob4_some, ob5_some, ob6_some, ob7_some, ob8_some, if_true, if_false, if_pos, if_neg, Sum.elim_inl, Sum.elim_inr, un1, un2, un3, un4, un5, Nat.zero_add, Nat.add_zero, Nat.mul_one, Nat.mul_zero, Nat.sub_zero, pk_us, pk_uLs, xoq_l, xoq_r, nI_sle, S_X0_countAllowed_17, g1, dn_m1]
        exact h9
      · show Y' t = wTb (A 6) (okc A 32 32) (d + 1) t
        by_cases h3 : t = A 6 - (d + 1)
        · subst h3
          rw [wTb_0]
          rw [show A 6 - (A 6 - (d + 1)) = d + 1 by omega] at g2
          exact g2
        · rw [wTb_n _ _ h3, g3 t h3, pk_uLn h3]
          exact e2 t (by omega) h2
    · have h8 : d = A 6 := by omega
      subst h8
      refine ⟨P, ?_, fun t h => e2 t (by omega) h⟩
      have h5 : nI (A 6 - A 6) - nI 1 < nI 0 := by rw [Nat.sub_self]; decide
      unfold S_X0_countAllowed_17
      simp only [fa_lit]
      rw [if_pos h5]
  obtain ⟨Y', g1, g2⟩ := key
  refine ⟨Y', ?_⟩
  unfold F_X0_countAllowed nwy
  by_cases h0 : A 6 = 0
  · rw [h0] at g1
    rw [if_pos h0, h0]
    simp (disch := omega) only [fa_lit, fa_litL, nI_add, pk_mul, pk_sub, nI_clamp, gi_n, gb_0, gb_1, nI_ltI, nI_leI, nI_eq, lc_lt, lc_gt, lc_ge, lc_le, lc_eq, lN_i, nI_l, lN_add, lN_mul, lN_lt, lN_le, lN_eq, mI_eqR, mI_eqL, mI_ltL, mI_ltR, mI_leL, mI_leR, mI_add, ob1_some, ob2_some, ob3_some, ob4_some, ob5_some, ob6_some, ob7_some, ob8_some, if_true, if_false, if_pos, if_neg, Sum.elim_inl, Sum.elim_inr, un1, un2, un3, un4, un5, Nat.zero_add, Nat.add_zero, Nat.mul_one, Nat.mul_zero, Nat.sub_zero, pk_us, pk_uLs, xoq_l, xoq_r, nI_sle, g1]
  · have h1 := g2 0 (by omega)
    rw [if_neg h0]
    simp only [fa_lit, fa_litL]
    rw [gi_n (by omega) (by omega), nI_clamp (by omega), ob1_s g1]
    simp (disch := omega) only [fa_lit, fa_litL, nI_add, pk_mul, pk_sub, nI_clamp, gi_n, gb_0, gb_1, nI_ltI, nI_leI, nI_eq, lc_lt, lc_gt, lc_ge, lc_le, lc_eq, lN_i, nI_l, lN_add, lN_mul, lN_lt, lN_le, lN_eq, mI_eqR, mI_eqL, mI_ltL, mI_ltR, mI_leL, mI_leR, mI_add, ob1_some, ob2_some, ob3_some, ob4_some, ob5_some, ob6_some, ob7_some, ob8_some, if_true, if_false, if_pos, if_neg, Sum.elim_inl, Sum.elim_inr, un1, un2, un3, un4, un5, Nat.zero_add, Nat.add_zero, Nat.mul_one, Nat.mul_zero, Nat.sub_zero, pk_us, pk_uLs, xoq_l, xoq_r, nI_sle, h1]
end
