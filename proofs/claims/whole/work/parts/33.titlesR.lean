/-! ===== titles: the words in their order, by both; marks by the reference ===== -/
/-- u comes before v in the titles of chapter c -/
def prc (A : Nat → Nat) (K c u v : Nat) : Prop := mk A K c v < mk A K c u ∨ (mk A K c u = mk A K c v ∧ u < v)
theorem prc_tr {A : Nat → Nat} {K c u v w : Nat} (h1 : prc A K c u v) (h2 : prc A K c v w) : prc A K c u w := by
  unfold prc at *
  omega
theorem prc_ir {A : Nat → Nat} {K c u : Nat} (h1 : prc A K c u u) : False := by
  unfold prc at h1
  omega
theorem prc_or (A : Nat → Nat) (K c u v : Nat) : prc A K c u v ∨ u = v ∨ prc A K c v u := by
  unfold prc
  omega
theorem prc_as {A : Nat → Nat} {K c u v : Nat} (h1 : prc A K c u v) : ¬ prc A K c v u := fun h2 => prc_ir (prc_tr h1 h2)
/-- the first in order of the words below n that P allows -/
def nxi (A : Nat → Nat) (K c : Nat) (P : Nat → Bool) : Nat → Option Nat
  | 0 => none
  | w + 1 => if P w = true then (match nxi A K c P w with
    | none => some w
    | some v => if mk A K c v < mk A K c w then some w else some v) else nxi A K c P w
theorem nxi_s (A : Nat → Nat) (K c : Nat) (P : Nat → Bool) (w : Nat) : nxi A K c P (w + 1) = if P w = true then (match nxi A K c P w with
    | none => some w
    | some v => if mk A K c v < mk A K c w then some w else some v) else nxi A K c P w := rfl
theorem nxi_spec {A : Nat → Nat} {K c : Nat} {P : Nat → Bool} : ∀ n, (nxi A K c P n = none → ∀ w, w < n → P w = false) ∧ ∀ v, nxi A K c P n = some v → v < n ∧ P v = true ∧ ∀ w, w < n → P w = true → w = v ∨ prc A K c v w := by
  intro n
  induction n with
  | zero => exact ⟨fun _ w h => absurd h (Nat.not_lt_zero w), fun v h => by cases h⟩
  | succ n ih =>
    rw [nxi_s]
    by_cases h1 : P n = true
    · rw [if_pos h1]
      cases hx : nxi A K c P n with
      | none =>
        refine ⟨fun h => (by cases h), fun v h => ?_⟩
        have h2 : n = v := Option.some.inj h
        subst h2
        refine ⟨by omega, h1, fun w hw hp => ?_⟩
        by_cases h3 : w = n
        · exact Or.inl h3
        · have h4 := ih.1 hx w (by omega)
          rw [h4] at hp; cases hp
      | some u =>
        have h2 := ih.2 u hx
        dsimp only
        by_cases h3 : mk A K c u < mk A K c n
        · rw [if_pos h3]
          refine ⟨fun h => (by cases h), fun v h => ?_⟩
          have h4 : n = v := Option.some.inj h
          subst h4
          refine ⟨by omega, h1, fun w hw hp => ?_⟩
          by_cases h5 : w = n
          · exact Or.inl h5
          · refine Or.inr ?_
            have h6 : prc A K c n u := Or.inl h3
            rcases h2.2.2 w (by omega) hp with h7 | h7
            · subst h7; exact h6
            · exact prc_tr h6 h7
        · rw [if_neg h3]
          refine ⟨fun h => (by cases h), fun v h => ?_⟩
          have h4 : u = v := Option.some.inj h
          subst h4
          refine ⟨by omega, h2.2.1, fun w hw hp => ?_⟩
          by_cases h5 : w = n
          · subst h5
            refine Or.inr ?_
            unfold prc
            omega
          · exact h2.2.2 w (by omega) hp
    · rw [if_neg h1]
      refine ⟨fun h w hw => ?_, fun v h => ?_⟩
      · by_cases h2 : w = n
        · subst h2; simpa using h1
        · exact ih.1 h w (by omega)
      · have h2 := ih.2 v h
        refine ⟨by omega, h2.2.1, fun w hw hp => ?_⟩
        by_cases h3 : w = n
        · subst h3; exact absurd hp h1
        · exact h2.2.2 w (by omega) hp
theorem nxi_congr {A : Nat → Nat} {K c : Nat} {P Q : Nat → Bool} : ∀ n, (∀ w, w < n → P w = Q w) → nxi A K c P n = nxi A K c Q n := by
  intro n
  induction n with
  | zero => intro _; rfl
  | succ n ih =>
    intro h
    rw [nxi_s, nxi_s, ih (fun w hw => h w (by omega)), h n (by omega)]
theorem nxi_cut {A : Nat → Nat} {K c n : Nat} {P : Nat → Bool} (h : ∀ w, n ≤ w → P w = false) : ∀ d, nxi A K c P (n + d) = nxi A K c P n := by
  intro d
  induction d with
  | zero => rfl
  | succ d ih =>
    rw [show n + (d + 1) = (n + d) + 1 from rfl, nxi_s, if_neg (by rw [h _ (by omega)]; decide)]
    exact ih
noncomputable section
/-- who may come behind a word (24: behind none) -/
def aft (A : Nat → Nat) (K c : Nat) (o : Option Nat) (w : Nat) : Bool := decide (0 < cu A c w) && (match o with
  | none => true
  | some v => decide (mk A K c w < mk A K c v ∨ (mk A K c v = mk A K c w ∧ v < w)))
def twd (A : Nat → Nat) (K c : Nat) : Nat → Option Nat
  | 0 => nxi A K c (aft A K c none) (A 7)
  | k + 1 => match twd A K c k with
    | none => none
    | some v => nxi A K c (aft A K c (some v)) (A 7)
end
theorem aft_some {A : Nat → Nat} {K c v w : Nat} : aft A K c (some v) w = true ↔ 0 < cu A c w ∧ prc A K c v w := by
  unfold aft prc
  simp
theorem aft_none {A : Nat → Nat} {K c w : Nat} : aft A K c none w = true ↔ 0 < cu A c w := by
  unfold aft
  simp
def pI (o : Option Nat) : Int32 :=
  match o with
  | none => -nI 1
  | some c => nI c
theorem nxi_lt {A : Nat → Nat} {K c n v : Nat} {P : Nat → Bool} (h : nxi A K c P n = some v) : v < n := ((nxi_spec n).2 v h).1
section
variable {A : Nat → Nat} {a : Nat → Int64} {x : Int × Nat × Nat} {spd cnt : Nat → Int32}
theorem p_precedes (hV : VA A) (hx : tbl A 0 = some x) (hT : TV A spd cnt) {c u v : Nat} (hc : c ≤ x.2.1) (hu : u < 24) (hv : v < 24) : F_X8_precedes (nI c) (nI u) (nI v) spd cnt = some (bI (mk A x.2.1 c v < mk A x.2.1 c u ∨ (mk A x.2.1 c u = mk A x.2.1 c v ∧ u < v))) := by
  have h1 := mk_le hV hx hc (w := u)
  have h2 := mk_le hV hx hc (w := v)
  by_cases h3 : mk A x.2.1 c v < mk A x.2.1 c u
  · rw [bI_1 (Or.inl h3)]
    simp (disch := omega) only [fa_lit, fa_litL, nI_add, pk_mul, pk_sub, nI_clamp, gi_n, gb_0, gb_1, nI_ltI, nI_leI, nI_eq, lc_lt, lc_gt, lc_ge, lc_le, lc_eq, lN_i, nI_l, lN_add, lN_mul, lN_lt, lN_le, lN_eq, mI_eqR, mI_eqL, mI_ltL, mI_ltR, mI_leL, mI_leR, mI_add, ob1_some, ob2_some, ob3_some, ob4_some, ob5_some, ob6_some, ob7_some, ob8_some, if_true, if_false, if_pos, if_neg, Sum.elim_inl, Sum.elim_inr, un1, un2, un3, un4, un5, Nat.zero_add, Nat.add_zero, Nat.mul_one, Nat.mul_zero, Nat.sub_zero, pk_us, pk_uLs, xoq_l, xoq_r, nI_sle, F_X8_precedes, p_markOf hV hx hT]
  · by_cases h4 : mk A x.2.1 c u = mk A x.2.1 c v
    · by_cases h5 : u < v
      · rw [bI_1 (Or.inr ⟨h4, h5⟩)]
        simp (disch := omega) only [fa_lit, fa_litL, nI_add, pk_mul, pk_sub, nI_clamp, gi_n, gb_0, gb_1, nI_ltI, nI_leI, nI_eq, lc_lt, lc_gt, lc_ge, lc_le, lc_eq, lN_i, nI_l, lN_add, lN_mul, lN_lt, lN_le, lN_eq, mI_eqR, mI_eqL, mI_ltL, mI_ltR, mI_leL, mI_leR, mI_add, ob1_some, ob2_some, ob3_some, ob4_some, ob5_some, ob6_some, ob7_some, ob8_some, if_true, if_false, if_pos, if_neg, Sum.elim_inl, Sum.elim_inr, un1, un2, un3, un4, un5, Nat.zero_add, Nat.add_zero, Nat.mul_one, Nat.mul_zero, Nat.sub_zero, pk_us, pk_uLs, xoq_l, xoq_r, nI_sle, F_X8_precedes, p_markOf hV hx hT]
      · rw [bI_0 (by omega)]
        simp (disch := omega) only [fa_lit, fa_litL, nI_add, pk_mul, pk_sub, nI_clamp, gi_n, gb_0, gb_1, nI_ltI, nI_leI, nI_eq, lc_lt, lc_gt, lc_ge, lc_le, lc_eq, lN_i, nI_l, lN_add, lN_mul, lN_lt, lN_le, lN_eq, mI_eqR, mI_eqL, mI_ltL, mI_ltR, mI_leL, mI_leR, mI_add, ob1_some, ob2_some, ob3_some, ob4_some, ob5_some, ob6_some, ob7_some, ob8_some, if_true, if_false, if_pos, if_neg, Sum.elim_inl, Sum.elim_inr, un1, un2, un3, un4, un5, Nat.zero_add, Nat.add_zero, Nat.mul_one, Nat.mul_zero, Nat.sub_zero, pk_us, pk_uLs, xoq_l, xoq_r, nI_sle, F_X8_precedes, p_markOf hV hx hT]
    · rw [bI_0 (by omega)]
      simp (disch := omega) only [fa_lit, fa_litL, nI_add, pk_mul, pk_sub, nI_clamp, gi_n, gb_0, gb_1, nI_ltI, nI_leI, nI_eq, lc_lt, lc_gt, lc_ge, lc_le, lc_eq, lN_i, nI_l, lN_add, lN_mul, lN_lt, lN_le, lN_eq, mI_eqR, mI_eqL, mI_ltL, mI_ltR, mI_leL, mI_leR, mI_add, ob1_some, ob2_some, ob3_some, ob4_some, ob5_some, ob6_some, ob7_some, ob8_some, if_true, if_false, if_pos, if_neg, Sum.elim_inl, Sum.elim_inr, un1, un2, un3, un4, un5, Nat.zero_add, Nat.add_zero, Nat.mul_one, Nat.mul_zero, Nat.sub_zero, pk_us, pk_uLs, xoq_l, xoq_r, nI_sle, F_X8_precedes, p_markOf hV hx hT]
theorem p_nextInTitle (hV : VA A) (hx : tbl A 0 = some x) (hT : TV A spd cnt) {c : Nat} (hc : c ≤ x.2.1) {o : Option Nat} (ho : ∀ v, o = some v → v < 24) : F_X8_nextInTitle (nI c) (pI o) spd cnt = some (pI (nxi A x.2.1 c (aft A x.2.1 c o) (A 7))) := by
  have hnw := hV.nw
  have hK := (tbl_cht hx).K
  have h0 := nxi_cut (A := A) (K := x.2.1) (c := c) (n := A 7) (P := aft A x.2.1 c o) (fun w hw => by
    unfold aft
    rw [cu_0 hV hx hc hw]
    rfl) (24 - A 7)
  rw [show A 7 + (24 - A 7) = 24 by omega] at h0
  rw [← h0]
  unfold F_X8_nextInTitle
  refine ob1_t (whf (fun j => (pI (nxi A x.2.1 c (aft A x.2.1 c o) j), nI j)) 0 24 rfl (by omega) (by omega) (fun j _ hj k => ?_) (fun k => ?_)) rfl
  · have h1 := p_stands hV hx hT hc hj
    have no : aft A x.2.1 c o j = false → F_X8_nextInTitle_b42 k (nI c) (pI o) (pI (nxi A x.2.1 c (aft A x.2.1 c o) j)) (nI j) spd cnt = k (pI (nxi A x.2.1 c (aft A x.2.1 c o) (j + 1)), nI (j + 1)) := fun h => by
      rw [nxi_s, if_neg (by rw [h]; decide)]
      simp (disch := omega) only [fa_lit, fa_litL, nI_add, pk_mul, pk_sub, nI_clamp, gi_n, gb_0, gb_1, nI_ltI, nI_leI, nI_eq, lc_lt, lc_gt, lc_ge, lc_le, lc_eq, lN_i, nI_l, lN_add, lN_mul, lN_lt, lN_le, lN_eq, mI_eqR, mI_eqL, mI_ltL, mI_ltR, mI_leL, mI_leR, mI_add, ob1_some, ob2_some, ob3_some, ob4_some, ob5_some, ob6_some, ob7_some, ob8_some, if_true, if_false, if_pos, if_neg, Sum.elim_inl, Sum.elim_inr, un1, un2, un3, un4, un5, Nat.zero_add, Nat.add_zero, Nat.mul_one, Nat.mul_zero, Nat.sub_zero, pk_us, pk_uLs, xoq_l, xoq_r, nI_sle, F_X8_nextInTitle_b42, F_X8_nextInTitle_b43]
    have yes : aft A x.2.1 c o j = true → F_X8_nextInTitle_b38 k (nI c) (pI o) (pI (nxi A x.2.1 c (aft A x.2.1 c o) j)) (nI j) spd cnt = k (pI (nxi A x.2.1 c (aft A x.2.1 c o) (j + 1)), nI (j + 1)) := fun h => by
      rw [nxi_s, if_pos h]
      cases hv : nxi A x.2.1 c (aft A x.2.1 c o) j with
      | none => simp (disch := omega) only [fa_lit, fa_litL, nI_add, pk_mul, pk_sub, nI_clamp, gi_n, gb_0, gb_1, nI_ltI, nI_leI, nI_eq, lc_lt, lc_gt, lc_ge, lc_le, lc_eq, lN_i, nI_l, lN_add, lN_mul, lN_lt, lN_le, lN_eq, mI_eqR, mI_eqL, mI_ltL, mI_ltR, mI_leL, mI_leR, mI_add, ob1_some, ob2_some, ob3_some, ob4_some, ob5_some, ob6_some, ob7_some, ob8_some, if_true, if_false, if_pos, if_neg, Sum.elim_inl, Sum.elim_inr, un1, un2, un3, un4, un5, Nat.zero_add, Nat.add_zero, Nat.mul_one, Nat.mul_zero, Nat.sub_zero, pk_us, pk_uLs, xoq_l, xoq_r, nI_sle, F_X8_nextInTitle_b38, F_X8_nextInTitle_b43, pI]
      | some v =>
        have hl := nxi_lt hv
        have hp := p_precedes hV hx hT hc (u := j) (v := v) (by omega) (by omega)
        dsimp only
        by_cases h2 : mk A x.2.1 c v < mk A x.2.1 c j
        · rw [bI_1 (Or.inl h2)] at hp
          rw [if_pos h2]
          simp (disch := omega) only [fa_lit, fa_litL, nI_add, pk_mul, pk_sub, nI_clamp, gi_n, gb_0, gb_1, nI_ltI, nI_leI, nI_eq, lc_lt, lc_gt, lc_ge, lc_le, lc_eq, lN_i, nI_l, lN_add, lN_mul, lN_lt, lN_le, lN_eq, mI_eqR, mI_eqL, mI_ltL, mI_ltR, mI_leL, mI_leR, mI_add, ob1_some, ob2_some, ob3_some, ob4_some, ob5_some, ob6_some, ob7_some, ob8_some, if_true, if_false, if_pos, if_neg, Sum.elim_inl, Sum.elim_inr, un1, un2, un3, un4, un5, Nat.zero_add, Nat.add_zero, Nat.mul_one, Nat.mul_zero, Nat.sub_zero, pk_us, pk_uLs, xoq_l, xoq_r, nI_sle, F_X8_nextInTitle_b38, F_X8_nextInTitle_b43, pI, hp]
        · rw [bI_0 (by omega)] at hp
          rw [if_neg h2]
          simp (disch := omega) only [fa_lit, fa_litL, nI_add, pk_mul, pk_sub, nI_clamp, gi_n, gb_0, gb_1, nI_ltI, nI_leI, nI_eq, lc_lt, lc_gt, lc_ge, lc_le, lc_eq, lN_i, nI_l, lN_add, lN_mul, lN_lt, lN_le, lN_eq, mI_eqR, mI_eqL, mI_ltL, mI_ltR, mI_leL, mI_leR, mI_add, ob1_some, ob2_some, ob3_some, ob4_some, ob5_some, ob6_some, ob7_some, ob8_some, if_true, if_false, if_pos, if_neg, Sum.elim_inl, Sum.elim_inr, un1, un2, un3, un4, un5, Nat.zero_add, Nat.add_zero, Nat.mul_one, Nat.mul_zero, Nat.sub_zero, pk_us, pk_uLs, xoq_l, xoq_r, nI_sle, F_X8_nextInTitle_b38, F_X8_nextInTitle_b43, pI, hp]
    show S_X8_nextInTitle_5 (nI c) (pI o) spd cnt k (pI (nxi A x.2.1 c (aft A x.2.1 c o) j)) (nI j) = k (pI (nxi A x.2.1 c (aft A x.2.1 c o) (j + 1)), nI (j + 1))
    by_cases h2 : 0 < cu A c j
    · rw [bI_1 h2] at h1
      cases o with
      | none =>
        have h3 : aft A x.2.1 c none j = true := aft_none.mpr h2
        have h4 := yes h3
        have h5 : pI none = -nI 1 := rfl
        rw [h5] at h4 ⊢
        simp (disch := omega) only [fa_lit, fa_litL, nI_add, pk_mul, pk_sub, nI_clamp, gi_n, gb_0, gb_1, nI_ltI, nI_leI, nI_eq, lc_lt, lc_gt, lc_ge, lc_le, lc_eq, lN_i, nI_l, lN_add, lN_mul, lN_lt, lN_le, lN_eq, mI_eqR, mI_eqL, mI_ltL, mI_ltR, mI_leL, mI_leR, mI_add, ob1_some, ob2_some, ob3_some, ob4_some, ob5_some, ob6_some, ob7_some, ob8_some, if_true, if_false, if_pos, if_neg, Sum.elim_inl, Sum.elim_inr, un1, un2, un3, un4, un5, Nat.zero_add, Nat.add_zero, Nat.mul_one, Nat.mul_zero, Nat.sub_zero, pk_us, pk_uLs, xoq_l, xoq_r, nI_sle, S_X8_nextInTitle_5, h1, h4]
      | some u =>
        have hu := ho u rfl
        have hp := p_precedes hV hx hT hc (u := u) (v := j) hu hj
        have h5 : pI (some u) = nI u := rfl
        by_cases h6 : mk A x.2.1 c j < mk A x.2.1 c u ∨ (mk A x.2.1 c u = mk A x.2.1 c j ∧ u < j)
        · have h4 := yes (aft_some.mpr ⟨h2, h6⟩)
          rw [bI_1 h6] at hp
          rw [h5] at h4 ⊢
          simp (disch := omega) only [fa_lit, fa_litL, nI_add, pk_mul, pk_sub, nI_clamp, gi_n, gb_0, gb_1, nI_ltI, nI_leI, nI_eq, lc_lt, lc_gt, lc_ge, lc_le, lc_eq, lN_i, nI_l, lN_add, lN_mul, lN_lt, lN_le, lN_eq, mI_eqR, mI_eqL, mI_ltL, mI_ltR, mI_leL, mI_leR, mI_add, ob1_some, ob2_some, ob3_some, ob4_some, ob5_some, ob6_some, ob7_some, ob8_some, if_true, if_false, if_pos, if_neg, Sum.elim_inl, Sum.elim_inr, un1, un2, un3, un4, un5, Nat.zero_add, Nat.add_zero, Nat.mul_one, Nat.mul_zero, Nat.sub_zero, pk_us, pk_uLs, xoq_l, xoq_r, nI_sle, S_X8_nextInTitle_5, h1, hp, h4]
        · have h4 := no (by
            rcases h : aft A x.2.1 c (some u) j with _ | _
            · rfl
            · exact absurd (aft_some.mp h).2 h6)
          rw [bI_0 h6] at hp
          rw [h5] at h4 ⊢
          simp (disch := omega) only [fa_lit, fa_litL, nI_add, pk_mul, pk_sub, nI_clamp, gi_n, gb_0, gb_1, nI_ltI, nI_leI, nI_eq, lc_lt, lc_gt, lc_ge, lc_le, lc_eq, lN_i, nI_l, lN_add, lN_mul, lN_lt, lN_le, lN_eq, mI_eqR, mI_eqL, mI_ltL, mI_ltR, mI_leL, mI_leR, mI_add, ob1_some, ob2_some, ob3_some, ob4_some, ob5_some, ob6_some, ob7_some, ob8_some, if_true, if_false, if_pos, if_neg, Sum.elim_inl, Sum.elim_inr, un1, un2, un3, un4, un5, Nat.zero_add, Nat.add_zero, Nat.mul_one, Nat.mul_zero, Nat.sub_zero, pk_us, pk_uLs, xoq_l, xoq_r, nI_sle, S_X8_nextInTitle_5, h1, hp, h4]
    · rw [bI_0 h2] at h1
      have h4 := no (by
        unfold aft
        rw [decide_eq_false h2]; rfl)
      simp (disch := omega) only [fa_lit, fa_litL, nI_add, pk_mul, pk_sub, nI_clamp, gi_n, gb_0, gb_1, nI_ltI, nI_leI, nI_eq, lc_lt, lc_gt, lc_ge, lc_le, lc_eq, lN_i, nI_l, lN_add, lN_mul, lN_lt, lN_le, lN_eq, mI_eqR, mI_eqL, mI_ltL, mI_ltR, mI_leL, mI_leR, mI_add, ob1_some, ob2_some, ob3_some, ob4_some, ob5_some, ob6_some, ob7_some, ob8_some, if_true, if_false, if_pos, if_neg, Sum.elim_inl, Sum.elim_inr, un1, un2, un3, un4, un5, Nat.zero_add, Nat.add_zero, Nat.mul_one, Nat.mul_zero, Nat.sub_zero, pk_us, pk_uLs, xoq_l, xoq_r, nI_sle, S_X8_nextInTitle_5, h1, h4]
  · simp (disch := omega) only [fa_lit, fa_litL, nI_add, pk_mul, pk_sub, nI_clamp, gi_n, gb_0, gb_1, nI_ltI, nI_leI, nI_eq, lc_lt, lc_gt, lc_ge, lc_le, lc_eq, lN_i, nI_l, lN_add, lN_mul, lN_lt, lN_le, lN_eq, mI_eqR, mI_eqL, mI_ltL, mI_ltR, mI_leL, mI_leR, mI_add, ob1_some, ob2_some, ob3_some, ob4_some, ob5_some, ob6_some, ob7_some, ob8_some, if_true, if_false, if_pos, if_neg, Sum.elim_inl, Sum.elim_inr, un1, un2, un3, un4, un5, Nat.zero_add, Nat.add_zero, Nat.mul_one, Nat.mul_zero, Nat.sub_zero, pk_us, pk_uLs, xoq_l, xoq_r, nI_sle, S_X8_nextInTitle_5]
theorem twd_lt {K c : Nat} : ∀ k v, twd A K c k = some v → v < A 7 := by
  intro k
  cases k with
  | zero => intro v h; exact nxi_lt h
  | succ k =>
    intro v h
    have h : (match twd A K c k with | none => none | some v => nxi A K c (aft A K c (some v)) (A 7)) = some v := h
    cases hx : twd A K c k with
    | none => rw [hx] at h; cases h
    | some u => rw [hx] at h; exact nxi_lt h
theorem twd_no {K c k : Nat} (h : twd A K c k = none) : ∀ d, twd A K c (k + d) = none := by
  intro d
  induction d with
  | zero => exact h
  | succ d ih =>
    show (match twd A K c (k + d) with | none => none | some v => nxi A K c (aft A K c (some v)) (A 7)) = none
    rw [ih]
theorem p_titleWord (hV : VA A) (hx : tbl A 0 = some x) (hT : TV A spd cnt) {c k : Nat} (hc : c ≤ x.2.1) (hk : k < 1000) : F_X8_titleWord (nI c) (nI k) spd cnt = some (pI (twd A x.2.1 c k)) := by
  have hnw := hV.nw
  unfold F_X8_titleWord
  simp only [fa_lit]
  have g0 := p_nextInTitle hV hx hT hc (o := none) (fun v h => by cases h)
  have g0 : F_X8_nextInTitle (nI c) (-nI 1) spd cnt = some (pI (twd A x.2.1 c 0)) := g0
  rw [ob1_s g0]
  refine ob1_t (wh_up (step := fun k' q => S_X8_titleWord_10 (nI c) (nI k) spd cnt k' q.1 q.2) k (by omega) (fun (j : Nat) (q : Int32 × Int32) => q = (pI (twd A x.2.1 c j), nI j)) (fun (o : Option ((Int32))) => o = some (pI (twd A x.2.1 c k))) (fun j q hj hI k' hk' => ?_) (Nat.zero_le _) rfl) rfl
  subst hI
  show S_X8_titleWord_10 (nI c) (nI k) spd cnt k' (pI (twd A x.2.1 c j)) (nI j) = _
  by_cases hlt : j < k
  · cases hv : twd A x.2.1 c j with
    | none =>
      have h1 := twd_no hv (k - j)
      rw [show j + (k - j) = k by omega] at h1
      rw [h1]
      simp (disch := omega) only [fa_lit, fa_litL, nI_add, pk_mul, pk_sub, nI_clamp, gi_n, gb_0, gb_1, nI_ltI, nI_leI, nI_eq, lc_lt, lc_gt, lc_ge, lc_le, lc_eq, lN_i, nI_l, lN_add, lN_mul, lN_lt, lN_le, lN_eq, mI_eqR, mI_eqL, mI_ltL, mI_ltR, mI_leL, mI_leR, mI_add, ob1_some, ob2_some, ob3_some, ob4_some, ob5_some, ob6_some, ob7_some, ob8_some, if_true, if_false, if_pos, if_neg, Sum.elim_inl, Sum.elim_inr, un1, un2, un3, un4, un5, Nat.zero_add, Nat.add_zero, Nat.mul_one, Nat.mul_zero, Nat.sub_zero, pk_us, pk_uLs, xoq_l, xoq_r, nI_sle, S_X8_titleWord_10, pI]
    | some v =>
      have h1 := twd_lt j v hv
      have g1 := p_nextInTitle hV hx hT hc (o := some v) (fun u h => by cases h; omega)
      have g1 : F_X8_nextInTitle (nI c) (nI v) spd cnt = some (pI (nxi A x.2.1 c (aft A x.2.1 c (some v)) (A 7))) := g1
      have h2 : twd A x.2.1 c (j + 1) = nxi A x.2.1 c (aft A x.2.1 c (some v)) (A 7) := by
        show (match twd A x.2.1 c j with | none => none | some v => nxi A x.2.1 c (aft A x.2.1 c (some v)) (A 7)) = _
        rw [hv]
      have h9 := hk' hlt (pI (twd A x.2.1 c (j + 1)), nI (j + 1)) rfl
      rw [h2] at h9
      have h3 : pI (some v) = nI v := rfl
      rw [h3]
      simp (disch := omega) only [fa_lit, fa_litL, nI_add, pk_mul, pk_sub, nI_clamp, gi_n, gb_0, gb_1, nI_ltI, nI_leI, nI_eq, lc_lt, lc_gt, lc_ge, lc_le, lc_eq, lN_i, nI_l, lN_add, lN_mul, lN_lt, lN_le, lN_eq, mI_eqR, mI_eqL, mI_ltL, mI_ltR, mI_leL, mI_leR, mI_add, ob1_some, ob2_some, ob3_some, ob4_some, ob5_some, ob6_some, ob7_some, ob8_some, if_true, if_false, if_pos, if_neg, Sum.elim_inl, Sum.elim_inr, un1, un2, un3, un4, un5, Nat.zero_add, Nat.add_zero, Nat.mul_one, Nat.mul_zero, Nat.sub_zero, pk_us, pk_uLs, xoq_l, xoq_r, nI_sle, S_X8_titleWord_10, g1]
      exact h9
  · have h8 : j = k := by omega
    subst h8
    simp (disch := omega) only [fa_lit, fa_litL, nI_add, pk_mul, pk_sub, nI_clamp, gi_n, gb_0, gb_1, nI_ltI, nI_leI, nI_eq, lc_lt, lc_gt, lc_ge, lc_le, lc_eq, lN_i, nI_l, lN_add, lN_mul, lN_lt, lN_le, lN_eq, mI_eqR, mI_eqL, mI_ltL, mI_ltR, mI_leL, mI_leR, mI_add, ob1_some, ob2_some, ob3_some, ob4_some, ob5_some, ob6_some, ob7_some, ob8_some, if_true, if_false, if_pos, if_neg, Sum.elim_inl, Sum.elim_inr, un1, un2, un3, un4, un5, Nat.zero_add, Nat.add_zero, Nat.mul_one, Nat.mul_zero, Nat.sub_zero, pk_us, pk_uLs, xoq_l, xoq_r, nI_sle, S_X8_titleWord_10]
end
