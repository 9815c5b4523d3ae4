/-! ===== the same questions, by the reference; the greatest price by both ===== -/
/-- what the reference's rows hold behind a question -/
def RB (A : Nat → Nat) (W C E : Nat → Int32) : Prop := ∀ t, t < A 6 → rowR (tbl A t) (W t) (C t) (E t)
theorem RB.z {A : Nat → Nat} {W C E : Nat → Int32} {x : Int × Nat × Nat} (h : RB A W C E) (hx : tbl A 0 = some x) : W 0 = iI x.1 ∧ C 0 = nI x.2.1 ∧ E 0 = nI x.2.2 := by
  have h1 := h 0 (tbl_pos hx)
  rw [hx] at h1
  exact h1
theorem RB.en {A : Nat → Nat} {W C E : Nat → Int32} {x : Int × Nat × Nat} (h : RB A W C E) (hx : tbl A 0 = some x) {k : Nat} (hk : k ≤ x.2.1) : E (bg (tbl A) k) = nI (en (tbl A) (bg (tbl A) k)) := by
  have h8 := (tbl_cht hx).1 k hk
  have h9 := h (bg (tbl A) k) h8.1
  cases hy : tbl A (bg (tbl A) k) with
  | none => rw [hy] at h8; exact absurd h8.2.1 (by decide)
  | some y =>
    rw [hy] at h9
    rw [en_s hy]
    exact h9.2.2
section
variable {A : Nat → Nat} {st chg : Nat → Int32} {a : Nat → Int64}
theorem q_best (hV : VA A) (hM : MR A a) {W C L G : Nat → Int32} {Y : Nat → Int64} :
    ∃ W' C' L' G' Y', F_X11_hasBest (-nI 1) (-nI 1) a W C L G Y = some (bI ((tbl A 0).isSome = true), W', C', L', G', Y') ∧ RB A W' C' L' ∧ (0 < A 6 → Y' 0 = nwy A) := by
  obtain ⟨W', C', L', G', Y', g1, g2⟩ := q_hasBest (w := 32) (b := 32) (W := W) (C := C) (L := L) (G := G) (Y := Y) hV hM
  rw [rI_32] at g1
  refine ⟨W', C', L', G', Y', ?_, fun t ht => (g2 t ht).1, fun h0 => ?_⟩
  · rw [g1]
    exact congrArg some (congrArg (fun x => (x, W', C', L', G', Y')) (bI_c tbl_iff))
  · rw [(g2 0 h0).2]
    unfold nwy
    rw [if_neg (by omega)]
theorem q_beginOf {W C E : Nat → Int32} {x : Int × Nat × Nat} (hV : VA A) (hx : tbl A 0 = some x) (hR : RB A W C E) {k : Nat} (hk : k ≤ x.2.1) : F_X11_beginOf (nI k) E = some (nI (bg (tbl A) k)) := by
  have hn := hV.n
  have hc := tbl_cht hx
  have hK := hc.K
  unfold F_X11_beginOf
  refine ob1_t (whf (fun j => (nI (bg (tbl A) j), nI j)) 0 k rfl (by omega) (by omega) (fun j _ hj k => ?_) (fun k => ?_)) rfl
  · have h1 := hR.en hx (k := j) (by omega)
    have h2 := (hc.1 j (by omega)).1
    simp (disch := omega) only [fa_lit, fa_litL, nI_add, pk_mul, pk_sub, nI_clamp, gi_n, gb_0, gb_1, nI_ltI, nI_leI, nI_eq, lc_lt, lc_gt, lc_ge, lc_le, lc_eq, lN_i, nI_l, lN_add, lN_mul, lN_lt, lN_le, lN_eq, mI_eqR, mI_eqL, mI_ltL, mI_ltR, mI_leL, mI_leR, mI_add, ob1_some, ob2_some, ob3_some, ob4_some, ob5_some, ob6_some, ob7_some, ob8_some, if_true, if_false, if_pos, if_neg, Sum.elim_inl, Sum.elim_inr, un1, un2, un3, un4, un5, Nat.zero_add, Nat.add_zero, Nat.mul_one, Nat.mul_zero, Nat.sub_zero, pk_us, pk_uLs, xoq_l, xoq_r, nI_sle, S_X11_beginOf_4, h1, bg_s]
  · simp (disch := omega) only [fa_lit, fa_litL, nI_add, pk_mul, pk_sub, nI_clamp, gi_n, gb_0, gb_1, nI_ltI, nI_leI, nI_eq, lc_lt, lc_gt, lc_ge, lc_le, lc_eq, lN_i, nI_l, lN_add, lN_mul, lN_lt, lN_le, lN_eq, mI_eqR, mI_eqL, mI_ltL, mI_ltR, mI_leL, mI_leR, mI_add, ob1_some, ob2_some, ob3_some, ob4_some, ob5_some, ob6_some, ob7_some, ob8_some, if_true, if_false, if_pos, if_neg, Sum.elim_inl, Sum.elim_inr, un1, un2, un3, un4, un5, Nat.zero_add, Nat.add_zero, Nat.mul_one, Nat.mul_zero, Nat.sub_zero, pk_us, pk_uLs, xoq_l, xoq_r, nI_sle, S_X11_beginOf_4]
theorem q_chapterAt {W C E : Nat → Int32} {x : Int × Nat × Nat} (hV : VA A) (hx : tbl A 0 = some x) (hR : RB A W C E) {t k : Nat} (hk : k ≤ x.2.1) (h1 : bg (tbl A) k ≤ t) (h2 : t < bg (tbl A) (k + 1)) : F_X11_chapterAt (nI t) E = some (nI k) := by
  have hn := hV.n
  have hc := tbl_cht hx
  have hK := hc.K
  have hend : bg (tbl A) (k + 1) ≤ A 6 := by
    have := hc.le (i := k + 1) (j := x.2.1 + 1) (by omega) (Nat.le_refl _)
    rw [hc.2] at this; exact this
  unfold F_X11_chapterAt
  refine ob1_t (whf (fun j => (nI j, nI (bg (tbl A) j))) 0 k rfl (by omega) (by omega) (fun j _ hj k => ?_) (fun k => ?_)) rfl
  · have h3 := hR.en hx (k := j) (by omega)
    have h4 := (hc.1 j (by omega)).1
    have h5 := hc.le (i := j + 1) (j := _) (show j + 1 ≤ _ from hj) (by omega)
    rw [bg_s] at h5
    simp (disch := omega) only [fa_lit, fa_litL, nI_add, pk_mul, pk_sub, nI_clamp, gi_n, gb_0, gb_1, nI_ltI, nI_leI, nI_eq, lc_lt, lc_gt, lc_ge, lc_le, lc_eq, lN_i, nI_l, lN_add, lN_mul, lN_lt, lN_le, lN_eq, mI_eqR, mI_eqL, mI_ltL, mI_ltR, mI_leL, mI_leR, mI_add, ob1_some, ob2_some, ob3_some, ob4_some, ob5_some, ob6_some, ob7_some, ob8_some, if_true, if_false, if_pos, if_neg, Sum.elim_inl, Sum.elim_inr, un1, un2, un3, un4, un5, Nat.zero_add, Nat.add_zero, Nat.mul_one, Nat.mul_zero, Nat.sub_zero, pk_us, pk_uLs, xoq_l, xoq_r, nI_sle, S_X11_chapterAt_4, h3, bg_s]
  · have h3 := hR.en hx hk
    have h4 := (hc.1 _ hk).1
    rw [bg_s] at h2 hend
    simp (disch := omega) only [fa_lit, fa_litL, nI_add, pk_mul, pk_sub, nI_clamp, gi_n, gb_0, gb_1, nI_ltI, nI_leI, nI_eq, lc_lt, lc_gt, lc_ge, lc_le, lc_eq, lN_i, nI_l, lN_add, lN_mul, lN_lt, lN_le, lN_eq, mI_eqR, mI_eqL, mI_ltL, mI_ltR, mI_leL, mI_leR, mI_add, ob1_some, ob2_some, ob3_some, ob4_some, ob5_some, ob6_some, ob7_some, ob8_some, if_true, if_false, if_pos, if_neg, Sum.elim_inl, Sum.elim_inr, un1, un2, un3, un4, un5, Nat.zero_add, Nat.add_zero, Nat.mul_one, Nat.mul_zero, Nat.sub_zero, pk_us, pk_uLs, xoq_l, xoq_r, nI_sle, S_X11_chapterAt_4, h3]
theorem q_worthOfLoop (hV : VA A) (hM : MR A a) {c : Nat} {th : Int32} (hc : c < 2 ^ 31) : wh (fun k q => S_X11_worthOf_30 (nI c) th a k q.1 q.2) wF (nI 0, nI 0) = some (wcs A c (A 6 - 1)) := by
  have hn := hV.n
  refine whf (fun j => (wcs A c j, nI j)) 0 (A 6 - 1) rfl (by omega) (by omega) (fun j _ hj k => ?_) (fun k => ?_)
  · by_cases h2 : c / 2 ^ j % 2 = 1
    · have h3 := q_has (c := c) (k := j) hc (by omega)
      rw [bI_1 h2] at h3
      rw [wcs_s, if_pos h2]
      simp (disch := omega) only [fa_lit, fa_litL, nI_add, pk_mul, pk_sub, nI_clamp, gi_n, gb_0, gb_1, nI_ltI, nI_leI, nI_eq, lc_lt, lc_gt, lc_ge, lc_le, lc_eq, lN_i, nI_l, lN_add, lN_mul, lN_lt, lN_le, lN_eq, mI_eqR, mI_eqL, mI_ltL, mI_ltR, mI_leL, mI_leR, mI_add, ob1_some, ob2_some, ob3_some, ob4_some, ob5_some, ob6_some, ob7_some, ob8_some, if_true, if_false, if_pos, if_neg, Sum.elim_inl, Sum.elim_inr, un1, un2, un3, un4, un5, Nat.zero_add, Nat.add_zero, Nat.mul_one, Nat.mul_zero, Nat.sub_zero, pk_us, pk_uLs, xoq_l, xoq_r, nI_sle, S_X11_worthOf_30, q_many hM, nI_sle, h3, q_changeOf hV hM, hM.at]
    · have h3 := q_has (c := c) (k := j) hc (by omega)
      rw [bI_0 h2] at h3
      rw [wcs_s, if_neg h2]
      simp (disch := omega) only [fa_lit, fa_litL, nI_add, pk_mul, pk_sub, nI_clamp, gi_n, gb_0, gb_1, nI_ltI, nI_leI, nI_eq, lc_lt, lc_gt, lc_ge, lc_le, lc_eq, lN_i, nI_l, lN_add, lN_mul, lN_lt, lN_le, lN_eq, mI_eqR, mI_eqL, mI_ltL, mI_ltR, mI_leL, mI_leR, mI_add, ob1_some, ob2_some, ob3_some, ob4_some, ob5_some, ob6_some, ob7_some, ob8_some, if_true, if_false, if_pos, if_neg, Sum.elim_inl, Sum.elim_inr, un1, un2, un3, un4, un5, Nat.zero_add, Nat.add_zero, Nat.mul_one, Nat.mul_zero, Nat.sub_zero, pk_us, pk_uLs, xoq_l, xoq_r, nI_sle, S_X11_worthOf_30, q_many hM, nI_sle, h3, i_add0]
  · simp (disch := omega) only [fa_lit, fa_litL, nI_add, pk_mul, pk_sub, nI_clamp, gi_n, gb_0, gb_1, nI_ltI, nI_leI, nI_eq, lc_lt, lc_gt, lc_ge, lc_le, lc_eq, lN_i, nI_l, lN_add, lN_mul, lN_lt, lN_le, lN_eq, mI_eqR, mI_eqL, mI_ltL, mI_ltR, mI_leL, mI_leR, mI_add, ob1_some, ob2_some, ob3_some, ob4_some, ob5_some, ob6_some, ob7_some, ob8_some, if_true, if_false, if_pos, if_neg, Sum.elim_inl, Sum.elim_inr, un1, un2, un3, un4, un5, Nat.zero_add, Nat.add_zero, Nat.mul_one, Nat.mul_zero, Nat.sub_zero, pk_us, pk_uLs, xoq_l, xoq_r, nI_sle, S_X11_worthOf_30, q_many hM, nI_sle]
theorem q_allowedLoop (hV : VA A) (hM : MR A a) {c : Nat} {th : Int32} (hc : c < 2 ^ 31) : wh (fun k q => S_X11_isAllowed_37 (nI c) th (-nI 1) (-nI 1) a k q.1 q.2) wF (nI 0, nI 0) = some (if alB A c (A 6) = true then .inr () else .inl ()) := by
  have hn := hV.n
  refine wh_up (A 6) (by omega) (fun (j : Nat) (q : Int32 × Int32) => q = (nI (fsg (A 6) c j), nI j) ∧ alB A c j = true) (fun (o : Option ((Unit) ⊕ (Unit))) => o = some (if alB A c (A 6) = true then .inr () else .inl ())) (fun j q hj hI k hk => ?_) (Nat.zero_le _) ⟨rfl, rfl⟩
  obtain ⟨rfl, h1⟩ := hI
  have h2 := fsg_le (A 6) c j
  show S_X11_isAllowed_37 (nI c) th (-nI 1) (-nI 1) a k (nI (fsg (A 6) c j)) (nI j) = _
  by_cases hlt : j < A 6
  · have h3 := q_isChapter (w := 32) (b := 32) hV hM (s := fsg (A 6) c j) (e := j) h2 hlt
    rw [rI_32] at h3
    by_cases h4 : j + 1 = A 6 ∨ c / 2 ^ j % 2 = 1
    · have e1 : S_X11_isAllowed_37 (nI c) th (-nI 1) (-nI 1) a k (nI (fsg (A 6) c j)) (nI j) = F_X11_isAllowed_b66 k (nI c) (nI (fsg (A 6) c j)) (nI j) th (-nI 1) (-nI 1) a := by
        by_cases h6 : j + 1 = A 6
        · simp (disch := omega) only [fa_lit, fa_litL, nI_add, pk_mul, pk_sub, nI_clamp, gi_n, gb_0, gb_1, nI_ltI, nI_leI, nI_eq, lc_lt, lc_gt, lc_ge, lc_le, lc_eq, lN_i, nI_l, lN_add, lN_mul, lN_lt, lN_le, lN_eq, mI_eqR, mI_eqL, mI_ltL, mI_ltR, mI_leL, mI_leR, mI_add, ob1_some, ob2_some, ob3_some, ob4_some, ob5_some, ob6_some, ob7_some, ob8_some, if_true, if_false, if_pos, if_neg, Sum.elim_inl, Sum.elim_inr, un1, un2, un3, un4, un5, Nat.zero_add, Nat.add_zero, Nat.mul_one, Nat.mul_zero, Nat.sub_zero, pk_us, pk_uLs, xoq_l, xoq_r, nI_sle, S_X11_isAllowed_37, q_many hM, nI_sle]
        · have h7 : c / 2 ^ j % 2 = 1 := h4.resolve_left h6
          have h8 := q_has (c := c) (k := j) hc (by omega)
          rw [bI_1 h7] at h8
          simp (disch := omega) only [fa_lit, fa_litL, nI_add, pk_mul, pk_sub, nI_clamp, gi_n, gb_0, gb_1, nI_ltI, nI_leI, nI_eq, lc_lt, lc_gt, lc_ge, lc_le, lc_eq, lN_i, nI_l, lN_add, lN_mul, lN_lt, lN_le, lN_eq, mI_eqR, mI_eqL, mI_ltL, mI_ltR, mI_leL, mI_leR, mI_add, ob1_some, ob2_some, ob3_some, ob4_some, ob5_some, ob6_some, ob7_some, ob8_some, if_true, if_false, if_pos, if_neg, Sum.elim_inl, Sum.elim_inr, un1, un2, un3, un4, un5, Nat.zero_add, Nat.add_zero, Nat.mul_one, Nat.mul_zero, Nat.sub_zero, pk_us, pk_uLs, xoq_l, xoq_r, nI_sle, S_X11_isAllowed_37, q_many hM, nI_sle, h8]
      rw [e1]
      by_cases h5 : lg A (fsg (A 6) c j) j
      · rw [bI_1 ((okc_32 (by omega)).mpr h5)] at h3
        have h9 := hk hlt (nI (fsg (A 6) c (j + 1)), nI (j + 1)) ⟨rfl, by rw [alB_s, if_pos h4, h1, decide_eq_true h5]; rfl⟩
        rw [fsg_s, if_pos h4] at h9
        simp (disch := omega) only [fa_lit, fa_litL, nI_add, pk_mul, pk_sub, nI_clamp, gi_n, gb_0, gb_1, nI_ltI, nI_leI, nI_eq, lc_lt, lc_gt, lc_ge, lc_le, lc_eq, lN_i, nI_l, lN_add, lN_mul, lN_lt, lN_le, lN_eq, mI_eqR, mI_eqL, mI_ltL, mI_ltR, mI_leL, mI_leR, mI_add, ob1_some, ob2_some, ob3_some, ob4_some, ob5_some, ob6_some, ob7_some, ob8_some, if_true, if_false, if_pos, if_neg, Sum.elim_inl, Sum.elim_inr, un1, un2, un3, un4, un5, Nat.zero_add, Nat.add_zero, Nat.mul_one, Nat.mul_zero, Nat.sub_zero, pk_us, pk_uLs, xoq_l, xoq_r, nI_sle, F_X11_isAllowed_b66, h3]
        exact h9
      · rw [bI_0 (fun h => h5 ((okc_32 (by omega)).mp h))] at h3
        have h7 : alB A c (j + 1) = false := by rw [alB_s, if_pos h4, decide_eq_false h5, Bool.and_false]
        have h8 := alB_f h7 (A 6 - (j + 1))
        rw [show j + 1 + (A 6 - (j + 1)) = A 6 by omega] at h8
        rw [h8]
        simp (disch := omega) only [fa_lit, fa_litL, nI_add, pk_mul, pk_sub, nI_clamp, gi_n, gb_0, gb_1, nI_ltI, nI_leI, nI_eq, lc_lt, lc_gt, lc_ge, lc_le, lc_eq, lN_i, nI_l, lN_add, lN_mul, lN_lt, lN_le, lN_eq, mI_eqR, mI_eqL, mI_ltL, mI_ltR, mI_leL, mI_leR, mI_add, ob1_some, ob2_some, ob3_some, ob4_some, ob5_some, ob6_some, ob7_some, ob8_some, if_true, if_false, if_pos, if_neg, Sum.elim_inl, Sum.elim_inr, un1, un2, un3, un4, un5, Nat.zero_add, Nat.add_zero, Nat.mul_one, Nat.mul_zero, Nat.sub_zero, pk_us, pk_uLs, xoq_l, xoq_r, nI_sle, F_X11_isAllowed_b66, h3]
        rfl
    · have h9 := hk hlt (nI (fsg (A 6) c (j + 1)), nI (j + 1)) ⟨rfl, by rw [alB_s, if_neg h4]; exact h1⟩
      rw [fsg_s, if_neg h4] at h9
      have h8 := q_has (c := c) (k := j) hc (by omega)
      rw [bI_0 (fun h => h4 (Or.inr h))] at h8
      simp (disch := omega) only [fa_lit, fa_litL, nI_add, pk_mul, pk_sub, nI_clamp, gi_n, gb_0, gb_1, nI_ltI, nI_leI, nI_eq, lc_lt, lc_gt, lc_ge, lc_le, lc_eq, lN_i, nI_l, lN_add, lN_mul, lN_lt, lN_le, lN_eq, mI_eqR, mI_eqL, mI_ltL, mI_ltR, mI_leL, mI_leR, mI_add, ob1_some, ob2_some, ob3_some, ob4_some, ob5_some, ob6_some, ob7_some, ob8_some, if_true, if_false, if_pos, if_neg, Sum.elim_inl, Sum.elim_inr, un1, un2, un3, un4, un5, Nat.zero_add, Nat.add_zero, Nat.mul_one, Nat.mul_zero, Nat.sub_zero, pk_us, pk_uLs, xoq_l, xoq_r, nI_sle, S_X11_isAllowed_37, q_many hM, nI_sle, h8]
      exact h9
  · have h8 : j = A 6 := by omega
    subst h8
    rw [h1, if_pos rfl]
    simp (disch := omega) only [fa_lit, fa_litL, nI_add, pk_mul, pk_sub, nI_clamp, gi_n, gb_0, gb_1, nI_ltI, nI_leI, nI_eq, lc_lt, lc_gt, lc_ge, lc_le, lc_eq, lN_i, nI_l, lN_add, lN_mul, lN_lt, lN_le, lN_eq, mI_eqR, mI_eqL, mI_ltL, mI_ltR, mI_leL, mI_leR, mI_add, ob1_some, ob2_some, ob3_some, ob4_some, ob5_some, ob6_some, ob7_some, ob8_some, if_true, if_false, if_pos, if_neg, Sum.elim_inl, Sum.elim_inr, un1, un2, un3, un4, un5, Nat.zero_add, Nat.add_zero, Nat.mul_one, Nat.mul_zero, Nat.sub_zero, pk_us, pk_uLs, xoq_l, xoq_r, nI_sle, S_X11_isAllowed_37, q_many hM, nI_sle]
/-! the greatest price -/
theorem p_chaptersAtPrice (hV : VA A) (hS : ∀ s, s ≤ A 6 → st s = nI (sp A s)) (hC : ∀ e, e + 1 < A 6 → chg e = nI (ch A e)) {p : Nat} {W C L : Nat → Int32} (hp : p ≤ 100) : ∃ W' C' L', F_X0_chaptersAtPrice (nI p) (nI (A 6)) (nI (A 0)) (nI (A 1)) chg W C L st = some (nI (nch (A 6) (okc A 32 32) (ch A) p), W', C', L') := by
  have hn := hV.n
  obtain ⟨W', C', L', g1, g2⟩ := p_solve (w := 32) (b := 32) (p := p) (c := ch A) (chg := chg) (W := W) (C := C) (L := L) hV hS hp (ch_le A) hC
  rw [rI_32] at g1
  refine ⟨W', C', L', ?_⟩
  unfold F_X0_chaptersAtPrice nch
  cases hT : dTb (A 6) (okc A 32 32) (fun e => (ch A e : Int) - p) (A 6) 0 with
  | none =>
    rw [hT, bI_0 (fun h => absurd h.2 (by decide))] at g1
    simp (disch := omega) only [fa_lit, fa_litL, nI_add, pk_mul, pk_sub, nI_clamp, gi_n, gb_0, gb_1, nI_ltI, nI_leI, nI_eq, lc_lt, lc_gt, lc_ge, lc_le, lc_eq, lN_i, nI_l, lN_add, lN_mul, lN_lt, lN_le, lN_eq, mI_eqR, mI_eqL, mI_ltL, mI_ltR, mI_leL, mI_leR, mI_add, ob1_some, ob2_some, ob3_some, ob4_some, ob5_some, ob6_some, ob7_some, ob8_some, if_true, if_false, if_pos, if_neg, Sum.elim_inl, Sum.elim_inr, un1, un2, un3, un4, un5, Nat.zero_add, Nat.add_zero, Nat.mul_one, Nat.mul_zero, Nat.sub_zero, pk_us, pk_uLs, xoq_l, xoq_r, nI_sle, g1]
  | some x =>
    have h0 : 0 < A 6 := by
      rcases Nat.eq_zero_or_pos (A 6) with h | h
      · rw [h] at hT; cases hT
      · exact h
    have h1 := g2 0 h0
    rw [hT] at h1
    have h2 := h1.2.1
    rw [hT, bI_1 ⟨h0, rfl⟩] at g1
    simp (disch := omega) only [fa_lit, fa_litL, nI_add, pk_mul, pk_sub, nI_clamp, gi_n, gb_0, gb_1, nI_ltI, nI_leI, nI_eq, lc_lt, lc_gt, lc_ge, lc_le, lc_eq, lN_i, nI_l, lN_add, lN_mul, lN_lt, lN_le, lN_eq, mI_eqR, mI_eqL, mI_ltL, mI_ltR, mI_leL, mI_leR, mI_add, ob1_some, ob2_some, ob3_some, ob4_some, ob5_some, ob6_some, ob7_some, ob8_some, if_true, if_false, if_pos, if_neg, Sum.elim_inl, Sum.elim_inr, un1, un2, un3, un4, un5, Nat.zero_add, Nat.add_zero, Nat.mul_one, Nat.mul_zero, Nat.sub_zero, pk_us, pk_uLs, xoq_l, xoq_r, nI_sle, g1, h2]
theorem halves : ∀ j, j < 7 → 1 ≤ 64 / 2 ^ j ∧ 64 / 2 ^ j ≤ 64 ∧ 64 / 2 ^ j / 2 = 64 / 2 ^ (j + 1) ∧ 128 / 2 ^ j = 2 * (64 / 2 ^ j) ∧ 128 / 2 ^ (j + 1) = 64 / 2 ^ j := by decide
theorem p_greatestPrice (hV : VA A) (hS : ∀ s, s ≤ A 6 → st s = nI (sp A s)) (hC : ∀ e, e + 1 < A 6 → chg e = nI (ch A e)) {m : Nat} {W C L : Nat → Int32} (hm : 1 ≤ m ∧ m ≤ 32) : ∃ r W' C' L', F_X0_greatestPrice (nI m) (nI (A 6)) (nI (A 0)) (nI (A 1)) chg W C L st = some (r, W', C', L') ∧ gpr (A 6) (okc A 32 32) (ch A) m r := by
  have hn := hV.n
  have hnb : ∀ p, nch (A 6) (okc A 32 32) (ch A) p ≤ 1000 ∨ 100 < p := fun p => by
    by_cases hp : p ≤ 100
    · refine Or.inl ?_
      unfold nch
      cases hT : dTb (A 6) (okc A 32 32) (fun e => (ch A e : Int) - p) (A 6) 0 with
      | none => exact Nat.zero_le _
      | some x =>
        have h0 : 0 < A 6 := by
          rcases Nat.eq_zero_or_pos (A 6) with h | h
          · rw [h] at hT; cases hT
          · exact h
        have hb := dTb_b (n := A 6) (ok := okc A 32 32) (g := fun e => (ch A e : Int) - p) (fun e => by have := ch_le A e; omega) (A 6) (Nat.le_refl _) 0 h0 x hT
        show x.2.1 + 1 ≤ 1000
        omega
    · exact Or.inr (by omega)
  obtain ⟨W1, C1, L1, g1⟩ := p_chaptersAtPrice (p := 0) (W := W) (C := C) (L := L) hV hS hC (by omega)
  unfold F_X0_greatestPrice
  simp only [fa_lit]
  rw [ob4_s g1]
  have hb0 := (hnb 0).resolve_right (by omega)
  by_cases h0 : m ≤ nch (A 6) (okc A 32 32) (ch A) 0
  · rw [if_pos (nI_le h0 (by omega))]
    have key : ∃ r W' C' L', wh (fun k q => S_X0_greatestPrice_16 (nI m) (nI (A 6)) (nI (A 0)) (nI (A 1)) chg st k q.1 q.2.1 q.2.2.1 q.2.2.2.1 q.2.2.2.2) wF (nI 0, nI 64, W1, C1, L1) = some (r, W', C', L') ∧ gpr (A 6) (okc A 32 32) (ch A) m r := by
      refine wh_up 7 (by omega) (fun (j : Nat) (q : Int32 × Int32 × (Nat → Int32) × (Nat → Int32) × (Nat → Int32)) => ∃ p, q.1 = nI p ∧ q.2.1 = nI (64 / 2 ^ j) ∧ p ≤ 100 ∧ m ≤ nch (A 6) (okc A 32 32) (ch A) p ∧ ∀ p', p + 128 / 2 ^ j ≤ p' → p' ≤ 100 → nch (A 6) (okc A 32 32) (ch A) p' < m) (fun (o : Option ((Int32 × (Nat → Int32) × (Nat → Int32) × (Nat → Int32)))) => ∃ r W' C' L', o = some (r, W', C', L') ∧ gpr (A 6) (okc A 32 32) (ch A) m r) (fun j q hj hI k hk => ?_) (Nat.zero_le _) ⟨0, rfl, rfl, by omega, h0, fun p' h1 h2 => by
        have e : 128 / 2 ^ 0 = 128 := by decide
        rw [e] at h1; omega⟩
      obtain ⟨l1, l2, P1, P2, P3⟩ := q
      obtain ⟨p, e1, e2, e3, e4, e5⟩ := hI
      have e1 : l1 = nI p := e1
      have e2 : l2 = nI (64 / 2 ^ j) := e2
      subst e1; subst e2
      show ∃ r W' C' L', S_X0_greatestPrice_16 (nI m) (nI (A 6)) (nI (A 0)) (nI (A 1)) chg st k (nI p) (nI (64 / 2 ^ j)) P1 P2 P3 = _ ∧ _
      by_cases hlt : j < 7
      · obtain ⟨d1, d2, d3, d4, d5⟩ := halves j hlt
        rw [d4] at e5
        have e6 : ∀ (l : Int32) (P1 P2 P3 : Nat → Int32), F_X0_greatestPrice_b43 k (nI m) l (nI (64 / 2 ^ j)) (nI (A 6)) (nI (A 0)) (nI (A 1)) chg P1 P2 P3 st = k (l, nI (64 / 2 ^ (j + 1)), P1, P2, P3) := fun l P1 P2 P3 => by
          unfold F_X0_greatestPrice_b43 gzi
          simp only [fa_lit]
          rw [if_neg (by decide), pk_div (by omega) (by omega) (by omega), d3]
        generalize 64 / 2 ^ j = D at *
        by_cases h1 : 100 < p + D
        · have h9 := hk hlt (nI p, nI (64 / 2 ^ (j + 1)), P1, P2, P3) ⟨p, rfl, rfl, e3, e4, fun p' b1 b2 => by rw [d5] at b1; omega⟩
          simp (disch := omega) only [fa_lit, fa_litL, nI_add, pk_mul, pk_sub, nI_clamp, gi_n, gb_0, gb_1, nI_ltI, nI_leI, nI_eq, lc_lt, lc_gt, lc_ge, lc_le, lc_eq, lN_i, nI_l, lN_add, lN_mul, lN_lt, lN_le, lN_eq, mI_eqR, mI_eqL, mI_ltL, mI_ltR, mI_leL, mI_leR, mI_add, ob1_some, ob2_some, ob3_some, ob4_some, ob5_some, ob6_some, ob7_some, ob8_some, if_true, if_false, if_pos, if_neg, Sum.elim_inl, Sum.elim_inr, un1, un2, un3, un4, un5, Nat.zero_add, Nat.add_zero, Nat.mul_one, Nat.mul_zero, Nat.sub_zero, pk_us, pk_uLs, xoq_l, xoq_r, nI_sle, S_X0_greatestPrice_16, e6]
          exact h9
        · obtain ⟨W2, C2, L2, g2⟩ := p_chaptersAtPrice (p := p + D) (W := P1) (C := P2) (L := P3) hV hS hC (by omega)
          have hb1 := (hnb (p + D)).resolve_right (by omega)
          by_cases h2 : nch (A 6) (okc A 32 32) (ch A) (p + D) < m
          · have h9 := hk hlt (nI p, nI (64 / 2 ^ (j + 1)), W2, C2, L2) ⟨p, rfl, rfl, e3, e4, fun p' b1 b2 => by
              rw [d5] at b1
              rcases Nat.eq_zero_or_pos (A 6) with hz | hz
              · have : nch (A 6) (okc A 32 32) (ch A) p' = 0 := by rw [hz]; rfl
                omega
              · have := nch_mono (n := A 6) (ok := okc A 32 32) (c := ch A) hz b1
                omega⟩
            simp (disch := omega) only [fa_lit, fa_litL, nI_add, pk_mul, pk_sub, nI_clamp, gi_n, gb_0, gb_1, nI_ltI, nI_leI, nI_eq, lc_lt, lc_gt, lc_ge, lc_le, lc_eq, lN_i, nI_l, lN_add, lN_mul, lN_lt, lN_le, lN_eq, mI_eqR, mI_eqL, mI_ltL, mI_ltR, mI_leL, mI_leR, mI_add, ob1_some, ob2_some, ob3_some, ob4_some, ob5_some, ob6_some, ob7_some, ob8_some, if_true, if_false, if_pos, if_neg, Sum.elim_inl, Sum.elim_inr, un1, un2, un3, un4, un5, Nat.zero_add, Nat.add_zero, Nat.mul_one, Nat.mul_zero, Nat.sub_zero, pk_us, pk_uLs, xoq_l, xoq_r, nI_sle, S_X0_greatestPrice_16, g2, e6]
            exact h9
          · have h9 := hk hlt (nI (p + D), nI (64 / 2 ^ (j + 1)), W2, C2, L2) ⟨p + D, rfl, rfl, by omega, by omega, fun p' b1 b2 => by rw [d5] at b1; exact e5 p' (by omega) b2⟩
            simp (disch := omega) only [fa_lit, fa_litL, nI_add, pk_mul, pk_sub, nI_clamp, gi_n, gb_0, gb_1, nI_ltI, nI_leI, nI_eq, lc_lt, lc_gt, lc_ge, lc_le, lc_eq, lN_i, nI_l, lN_add, lN_mul, lN_lt, lN_le, lN_eq, mI_eqR, mI_eqL, mI_ltL, mI_ltR, mI_leL, mI_leR, mI_add, ob1_some, ob2_some, ob3_some, ob4_some, ob5_some, ob6_some, ob7_some, ob8_some, if_true, if_false, if_pos, if_neg, Sum.elim_inl, Sum.elim_inr, un1, un2, un3, un4, un5, Nat.zero_add, Nat.add_zero, Nat.mul_one, Nat.mul_zero, Nat.sub_zero, pk_us, pk_uLs, xoq_l, xoq_r, nI_sle, S_X0_greatestPrice_16, g2, e6]
            exact h9
      · have h8 : j = 7 := by omega
        subst h8
        have e9 : 128 / 2 ^ 7 = 1 := by decide
        rw [e9] at e5
        refine ⟨nI p, P1, P2, P3, ?_, Or.inr ⟨p, e3, rfl, e4, fun p' b1 b2 => e5 p' (by omega) b2⟩⟩
        unfold S_X0_greatestPrice_16
        exact if_pos (by decide)
    obtain ⟨r, W', C', L', f1, f2⟩ := key
    refine ⟨r, W', C', L', ?_, f2⟩
    rw [ob4_s f1]
  · rw [if_neg (fun h => h0 ((nI_leI (by omega) (by omega)).mp h))]
    refine ⟨-nI 1, W1, C1, L1, rfl, Or.inl ⟨rfl, fun p hp => ?_⟩⟩
    rcases Nat.eq_zero_or_pos (A 6) with hz | hz
    · have : nch (A 6) (okc A 32 32) (ch A) p = 0 := by rw [hz]; rfl
      omega
    · have := nch_mono (n := A 6) (ok := okc A 32 32) (c := ch A) hz (p := 0) (q := p) (by omega)
      omega
end
/-! the show at another price -/
def pset (A : Nat → Nat) (p : Nat) : Nat → Nat := fun k => if k = 3 then p else A k
theorem pset_3 (A : Nat → Nat) (p : Nat) : pset A p 3 = p := if_pos rfl
theorem pset_n {A : Nat → Nat} {p k : Nat} (h : k ≠ 3) : pset A p k = A k := if_neg h
theorem pset_o {A : Nat → Nat} {p s w : Nat} : oA (pset A p) s w = oA A s w := pset_n (by omega)
theorem pset_sp {A : Nat → Nat} {p : Nat} : ∀ s, sp (pset A p) s = sp A s := by
  intro s
  induction s with
  | zero => rfl
  | succ s ih => rw [sp_s, sp_s, ih, pset_o]
theorem pset_uk {A : Nat → Nat} {p w s : Nat} : ∀ k, uk (pset A p) w s k = uk A w s k := by
  intro k
  induction k with
  | zero => rfl
  | succ k ih =>
    show (if oA (pset A p) s (3 + k) = w then uk (pset A p) w s k + 1 else uk (pset A p) w s k) = (if oA A s (3 + k) = w then uk A w s k + 1 else uk A w s k)
    rw [ih, pset_o]
theorem pset_us {A : Nat → Nat} {p w f : Nat} : ∀ d, us (pset A p) w f d = us A w f d := by
  intro d
  induction d with
  | zero => rfl
  | succ d ih => rw [us_s, us_s, ih, pset_uk, pset_o]
theorem pset_lk {A : Nat → Nat} {p f d g e : Nat} : lk (pset A p) f d g e = lk A f d g e := by
  unfold lk
  simp only [pset_us, pset_n (show 7 ≠ 3 by decide)]
theorem pset_ch {A : Nat → Nat} {p : Nat} : ch (pset A p) = ch A := by
  funext b
  unfold ch
  rw [pset_lk, pset_n (show 2 ≠ 3 by decide), pset_n (show 6 ≠ 3 by decide)]
theorem pset_okc {A : Nat → Nat} {p w b : Nat} : okc (pset A p) w b = okc A w b := by
  funext s e
  unfold okc lg
  simp only [pset_sp, pset_n (show 0 ≠ 3 by decide), pset_n (show 1 ≠ 3 by decide)]
theorem pset_VA {A : Nat → Nat} {p : Nat} (h : VA A) (hp : p ≤ 100) : VA (pset A p) := by
  obtain ⟨⟨h1, h2, h3, h4, h5, h6, h7, h8, h9⟩, ⟨i1, i2, i3⟩, ⟨j1, j2⟩, ⟨k1, k2, k3⟩, l1⟩ := h
  unfold VA
  simp only [pset_o, pset_3, pset_n (show 0 ≠ 3 by decide), pset_n (show 1 ≠ 3 by decide), pset_n (show 2 ≠ 3 by decide), pset_n (show 4 ≠ 3 by decide), pset_n (show 5 ≠ 3 by decide), pset_n (show 6 ≠ 3 by decide), pset_n (show 7 ≠ 3 by decide), pset_n (show 8 ≠ 3 by decide), pset_n (show 409 ≠ 3 by decide), pset_n (show 410 ≠ 3 by decide)]
  refine ⟨⟨h1, h2, h3, hp, h5, h6, h7, h8, h9⟩, ⟨i1, i2, i3⟩, ⟨fun i hi => ?_, fun i j hij hj => ?_⟩, ⟨k1, k2, fun s hs => ?_⟩, fun w hw => ?_⟩
  · rw [pset_n (by omega), pset_n (by omega), pset_n (by omega)]; exact j1 i hi
  · rw [pset_n (by omega), pset_n (by omega)]; exact j2 i j hij hj
  · rw [pset_n (by omega), pset_n (by omega)]; exact k3 s hs
  · rw [pset_n (by omega)]; exact l1 w hw
theorem pset_MR {A : Nat → Nat} {a : Nat → Int64} {p : Nat} (h : MR A a) : MR (pset A p) (vp_updL a 3 (lN p)) := by
  intro k hk
  by_cases h3 : k = 3
  · subst h3; rw [pk_uLs, pset_3]
  · rw [pk_uLn h3, pset_n h3]; exact h k hk
/-- all but the price -/
def MX (A : Nat → Nat) (a : Nat → Int64) : Prop := ∀ k, k < 499 → k ≠ 3 → a k = lN (A k)
theorem MX.at {A : Nat → Nat} {a : Nat → Int64} {p : Nat} (h : MX A a) (h3 : a 3 = lN p) : MR (pset A p) a := by
  intro k hk
  by_cases h4 : k = 3
  · subst h4; rw [h3, pset_3]
  · rw [h k hk h4, pset_n h4]
theorem MX.of {A : Nat → Nat} {a : Nat → Int64} {v : Int64} (h : MR A a) : MX A (vp_updL a 3 v) := fun k hk h3 => by rw [pk_uLn h3]; exact h k hk
theorem MX.u {A : Nat → Nat} {a : Nat → Int64} {v : Int64} (h : MX A a) : MX A (vp_updL a 3 v) := fun k hk h3 => by rw [pk_uLn h3]; exact h k hk h3
theorem MX.back {A : Nat → Nat} {a : Nat → Int64} (h : MX A a) : MR A (vp_updL a 3 (lN (A 3))) := by
  intro k hk
  by_cases h3 : k = 3
  · subst h3; rw [pk_uLs]
  · rw [pk_uLn h3, h k hk h3]
theorem nch_tbl {A : Nat → Nat} {p : Nat} : nch (A 6) (okc A 32 32) (ch A) p = match tbl (pset A p) 0 with | none => 0 | some x => x.2.1 + 1 := by
  unfold nch tbl
  rw [pset_okc, pset_ch, pset_n (show 6 ≠ 3 by decide), pset_3]
  cases dTb (A 6) (okc A 32 32) (fun e => (ch A e : Int) - p) (A 6) 0 with
  | none => rfl
  | some x => rfl
section
variable {A : Nat → Nat} {a : Nat → Int64}
theorem i_neg1 : nI 0 + -nI 1 = -nI 1 := by decide
theorem q_priceLoop (hV : VA A) (hM : MR A a) {m : Nat} {was : Int64} {th : Int32} {W C L G : Nat → Int32} {Y : Nat → Int64} (hm : 1 ≤ m ∧ m ≤ 32) :
    ∃ r a' W' C' L' G' Y', wh (fun k q => S_X11_priceFor_50 (nI m) was th (-nI 1) (-nI 1) k q.1 q.2.1 q.2.2.1 q.2.2.2.1 q.2.2.2.2.1 q.2.2.2.2.2.1 q.2.2.2.2.2.2) wF (nI 100, vp_updL a 3 (lN 100), W, C, L, G, Y) = some (r, a', W', C', L', G', Y') ∧ gpr (A 6) (okc A 32 32) (ch A) m r ∧ MX A a' := by
  refine wh_up 101 (by omega) (fun (j : Nat) (q : Int32 × (Nat → Int64) × (Nat → Int32) × (Nat → Int32) × (Nat → Int32) × (Nat → Int32) × (Nat → Int64)) => q.1 = nI (101 - j) - nI 1 ∧ MX A q.2.1 ∧ (j < 101 → q.2.1 3 = lN (100 - j)) ∧ ∀ p', 101 ≤ p' + j → p' ≤ 100 → nch (A 6) (okc A 32 32) (ch A) p' < m) (fun (o : Option ((Int32 × (Nat → Int64) × (Nat → Int32) × (Nat → Int32) × (Nat → Int32) × (Nat → Int32) × (Nat → Int64)))) => ∃ r a' W' C' L' G' Y', o = some (r, a', W', C', L', G', Y') ∧ gpr (A 6) (okc A 32 32) (ch A) m r ∧ MX A a') (fun j q hj hI k hk => ?_) (Nat.zero_le _) ⟨rfl, MX.of hM, fun _ => (pk_uLs : vp_updL a 3 (lN 100) 3 = lN 100), fun p' h1 h2 => by omega⟩
  obtain ⟨l, a1, P1, P2, P3, P4, P5⟩ := q
  obtain ⟨e1, e2, e3, e4⟩ := hI
  have e1 : l = nI (101 - j) - nI 1 := e1
  subst e1
  have e2 : MX A a1 := e2
  have e3 : j < 101 → a1 3 = lN (100 - j) := e3
  show ∃ r a' W' C' L' G' Y', S_X11_priceFor_50 (nI m) was th (-nI 1) (-nI 1) k (nI (101 - j) - nI 1) a1 P1 P2 P3 P4 P5 = _ ∧ _
  by_cases hlt : j < 101
  · have hV2 := pset_VA (p := 100 - j) hV (by omega)
    have hn : A 6 ≤ 32 := hV.n
    obtain ⟨W', C', L', G', Y', g1, g2, -⟩ := q_best (W := P1) (C := P2) (L := P3) (G := P4) (Y := P5) hV2 (e2.at (e3 hlt))
    have e6 : nI (101 - j) - nI 1 = nI (100 - j) := by rw [pk_sub (by omega)]; congr 1; omega
    have e7 : nI (100 - j) + -nI 1 = nI (101 - (j + 1)) - nI 1 := by
      rw [← Int32.sub_eq_add_neg, show 101 - (j + 1) = 100 - j by omega]
    have h7 : F_X11_priceFor_b74 k (nI m) was (nI (100 - j)) th (-nI 1) (-nI 1) a1 W' C' L' G' Y' = k (nI (101 - (j + 1)) - nI 1, vp_updL a1 3 ((nI (101 - (j + 1)) - nI 1).toInt64), W', C', L', G', Y') := by
      unfold F_X11_priceFor_b74
      simp only [fa_lit, e7]
      rw [gi_n (by omega) (by omega), nI_clamp (by omega)]
    have step : nch (A 6) (okc A 32 32) (ch A) (100 - j) < m → ∃ r a' W'' C'' L'' G'' Y'', k (nI (101 - (j + 1)) - nI 1, vp_updL a1 3 ((nI (101 - (j + 1)) - nI 1).toInt64), W', C', L', G', Y') = some (r, a', W'', C'', L'', G'', Y'') ∧ gpr (A 6) (okc A 32 32) (ch A) m r ∧ MX A a' := fun hlow => by
      refine hk hlt (nI (101 - (j + 1)) - nI 1, vp_updL a1 3 ((nI (101 - (j + 1)) - nI 1).toInt64), W', C', L', G', Y') ⟨rfl, e2.u, fun h => ?_, fun p' b1 b2 => ?_⟩
      · show vp_updL a1 3 ((nI (101 - (j + 1)) - nI 1).toInt64) 3 = lN (100 - (j + 1))
        rw [pk_uLs, pk_sub (by omega), nI_l (by omega)]
        congr 1; omega
      · by_cases h9 : p' = 100 - j
        · rw [h9]; exact hlow
        · exact e4 p' (by omega) b2
    have h0 : ¬ nI (100 - j) < nI 0 := fun h => by
      have := (nI_ltI (by omega) (by omega)).mp h
      omega
    rw [e6]
    have hN := nch_tbl (A := A) (p := 100 - j)
    unfold S_X11_priceFor_50
    simp only [fa_lit]
    rw [if_neg h0, ob6_s g1]
    cases hT : tbl (pset A (100 - j)) 0 with
    | none =>
      rw [hT] at hN
      have hN : nch (A 6) (okc A 32 32) (ch A) (100 - j) = 0 := hN
      rw [bI_0 (by decide), if_pos rfl, h7]
      exact step (by omega)
    | some x =>
      rw [hT] at hN
      have hN : nch (A 6) (okc A 32 32) (ch A) (100 - j) = x.2.1 + 1 := hN
      have h8 := (g2.z hT).2.1
      have h9 := tbl_b hV2 (s := 0) (tbl_pos hT) x hT
      have h10 : pset A (100 - j) 6 = A 6 := pset_n (by decide)
      rw [bI_1 (show (some x).isSome = true from rfl), if_neg (by decide), gi_n (by omega) (by omega), nI_clamp (by omega), h8, nI_add]
      by_cases h11 : m ≤ x.2.1 + 1
      · rw [if_pos (nI_le h11 (by omega))]
        exact ⟨_, _, _, _, _, _, _, rfl, Or.inr ⟨100 - j, by omega, rfl, by omega, fun p' b1 b2 => e4 p' (by omega) b2⟩, e2⟩
      · rw [if_neg (fun h => h11 ((nI_leI (by omega) (by omega)).mp h)), h7]
        exact step (by omega)
  · have h8 : j = 101 := by omega
    subst h8
    refine ⟨nI (101 - 101) - nI 1, a1, P1, P2, P3, P4, P5, ?_, Or.inl ⟨by decide, fun p hp => e4 p (by omega) hp⟩, e2⟩
    unfold S_X11_priceFor_50
    exact if_pos (by decide)
end
