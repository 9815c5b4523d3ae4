/-! ===== divisions: the table of the best ones, by both ===== -/
theorem bI_z {p : Prop} [Decidable p] : (bI p = nI 0) = ¬ p := by
  unfold bI
  refine propext ⟨fun h hp => ?_, fun h => if_neg h⟩
  rw [if_pos hp] at h
  exact absurd ((nI_eq (by omega) (by omega)).mp h) (by omega)
theorem bI_c {p q : Prop} [Decidable p] [Decidable q] (h : p ↔ q) : bI p = bI q := by
  unfold bI
  by_cases h1 : p
  · rw [if_pos h1, if_pos (h.mp h1)]
  · rw [if_neg h1, if_neg (fun h2 => h1 (h.mpr h2))]
theorem gb_b {α : Type} {p : Prop} [Decidable p] {x : Option α} : gb (bI p) x = x := by
  unfold bI
  by_cases h1 : p
  · rw [if_pos h1]; exact gb_1
  · rw [if_neg h1]; exact gb_0
/-- a wanted boundary, or none: 32 -/
theorem w_lt {w s : Nat} (hs : s < 2 ^ 31) : (rI w 32 < nI s) = ¬ (s ≤ w ∧ w < 32) := by
  by_cases h : w < 32
  · rw [rI_l h, nI_ltI (by omega) hs]; exact propext ⟨fun h => by omega, fun h => by omega⟩
  · rw [rI_n h, mI_ltL hs]; exact propext ⟨fun _ => by omega, fun _ => trivial⟩
theorem w_le {w s : Nat} (hs : s < 2 ^ 31) : (nI s ≤ rI w 32) = (s ≤ w ∧ w < 32) := by
  by_cases h : w < 32
  · rw [rI_l h, nI_leI hs (by omega)]; exact propext ⟨fun h => by omega, fun h => by omega⟩
  · rw [rI_n h, mI_leR hs]; exact propext ⟨fun h => h.elim, fun h => by omega⟩
theorem w_eq {w s : Nat} (hs : s < 2 ^ 31) : (nI s = rI w 32) = (w < 32 ∧ s = w) := by
  by_cases h : w < 32
  · rw [rI_l h, nI_eq hs (by omega)]; exact propext ⟨fun h => by omega, fun h => by omega⟩
  · rw [rI_n h, mI_eqR hs]; exact propext ⟨fun h => h.elim, fun h => by omega⟩
theorem w_no {w : Nat} : (rI w 32 = -nI 1) = ¬ (w < 32) := by
  by_cases h : w < 32
  · rw [rI_l h, mI_eqR (by omega)]; exact propext ⟨fun h => h.elim, fun h2 => h2 h⟩
  · rw [rI_n h]; exact propext ⟨fun _ => h, fun _ => rfl⟩
theorem w_gt {w s : Nat} (hs : s < 2 ^ 31) : (rI w 32 < nI s) = (w < 32 → w < s) := by
  by_cases h : w < 32
  · rw [rI_l h, nI_ltI (by omega) hs]; exact propext ⟨fun h _ => h, fun h2 => h2 h⟩
  · rw [rI_n h, mI_ltL hs]; exact propext ⟨fun _ h2 => absurd h2 h, fun _ => trivial⟩
abbrev lg (A : Nat → Nat) (s e : Nat) : Prop := A 0 + sp A s ≤ sp A (e + 1) ∧ sp A (e + 1) ≤ A 1 + sp A s
/-- a chapter from s to e, with w to be cut (32: none), b to be left (32: none) -/
def okc (A : Nat → Nat) (w b s e : Nat) : Bool := decide (lg A s e ∧ ¬ (s ≤ w ∧ w < e) ∧ e ≠ b)
theorem okc_iff {A : Nat → Nat} {w b s e : Nat} : okc A w b s e = true ↔ lg A s e ∧ ¬ (s ≤ w ∧ w < e) ∧ e ≠ b := by
  unfold okc; exact decide_eq_true_iff
/-! the table -/
def dMg (o q : Option (Int × Nat × Nat)) : Option (Int × Nat × Nat) :=
  match q with
  | none => o
  | some y => match o with
    | none => some y
    | some x => if x.1 < y.1 ∨ (y.1 = x.1 ∧ y.2.1 < x.2.1) then some y else some x
def dCe (n : Nat) (g : Nat → Int) (T : Nat → Option (Int × Nat × Nat)) (e : Nat) : Option (Int × Nat × Nat) :=
  if e + 1 = n then some (0, 0, e) else match T (e + 1) with
    | none => none
    | some x => some (g e + x.1, x.2.1 + 1, e)
def dIn (n : Nat) (ok : Nat → Nat → Bool) (g : Nat → Int) (T : Nat → Option (Int × Nat × Nat)) (s : Nat) : Nat → Option (Int × Nat × Nat)
  | 0 => none
  | j + 1 => if ok s (s + j) = true then dMg (dIn n ok g T s j) (dCe n g T (s + j)) else dIn n ok g T s j
theorem dIn_s (n : Nat) (ok : Nat → Nat → Bool) (g : Nat → Int) (T : Nat → Option (Int × Nat × Nat)) (s j : Nat) : dIn n ok g T s (j + 1) = if ok s (s + j) = true then dMg (dIn n ok g T s j) (dCe n g T (s + j)) else dIn n ok g T s j := rfl
def dTb (n : Nat) (ok : Nat → Nat → Bool) (g : Nat → Int) : Nat → Nat → Option (Int × Nat × Nat)
  | 0 => fun _ => none
  | d + 1 => fun s => if s = n - (d + 1) then dIn n ok g (dTb n ok g d) s (d + 1) else dTb n ok g d s
def dB (n s : Nat) (o : Option (Int × Nat × Nat)) : Prop := ∀ x, o = some x → -(100 * ((n : Int) - s)) ≤ x.1 ∧ x.1 ≤ 100 * ((n : Int) - s) ∧ x.2.1 + s + 1 ≤ n ∧ s ≤ x.2.2 ∧ x.2.2 < n
theorem dMg_or (o q : Option (Int × Nat × Nat)) : dMg o q = o ∨ dMg o q = q := by
  unfold dMg
  cases q with
  | none => exact Or.inl rfl
  | some y =>
    cases o with
    | none => exact Or.inr rfl
    | some x =>
      dsimp only
      split
      · exact Or.inr rfl
      · exact Or.inl rfl
theorem dCe_b {n s e : Nat} {g : Nat → Int} {T : Nat → Option (Int × Nat × Nat)} (hse : s ≤ e) (he : e < n) (hg : -100 ≤ g e ∧ g e ≤ 100) (hT : e + 1 < n → dB n (e + 1) (T (e + 1))) : dB n s (dCe n g T e) := by
  intro x hx
  unfold dCe at hx
  by_cases h : e + 1 = n
  · rw [if_pos h] at hx
    cases hx
    dsimp only
    omega
  · rw [if_neg h] at hx
    have h2 := hT (by omega)
    cases hTe : T (e + 1) with
    | none => rw [hTe] at hx; cases hx
    | some y =>
      rw [hTe] at hx
      have h3 := h2 y hTe
      cases hx
      dsimp only
      omega
theorem dIn_b {n s : Nat} {ok : Nat → Nat → Bool} {g : Nat → Int} {T : Nat → Option (Int × Nat × Nat)} (hg : ∀ e, -100 ≤ g e ∧ g e ≤ 100) (hT : ∀ t, s < t → t < n → dB n t (T t)) : ∀ j, s + j ≤ n → dB n s (dIn n ok g T s j) := by
  intro j
  induction j with
  | zero => intro _ x hx; cases hx
  | succ j ih =>
    intro hj
    rw [dIn_s]
    have h1 := ih (by omega)
    split
    · rcases dMg_or (dIn n ok g T s j) (dCe n g T (s + j)) with h | h
      · rw [h]; exact h1
      · rw [h]; exact dCe_b (by omega) (by omega) (hg _) (fun h9 => hT _ (by omega) h9)
    · exact h1
theorem dTb_b {n : Nat} {ok : Nat → Nat → Bool} {g : Nat → Int} (hg : ∀ e, -100 ≤ g e ∧ g e ≤ 100) : ∀ d, d ≤ n → ∀ s, s < n → dB n s (dTb n ok g d s) := by
  intro d
  induction d with
  | zero => intro _ s _ x hx; cases hx
  | succ d ih =>
    intro hd s hs
    show dB n s (if s = n - (d + 1) then dIn n ok g (dTb n ok g d) s (d + 1) else dTb n ok g d s)
    split
    · exact dIn_b hg (fun t _ ht => ih (by omega) t ht) (d + 1) (by omega)
    · exact ih (by omega) s hs
/-- what the class holds of it -/
def rowC (o : Option (Int × Nat × Nat)) (w c l : Int32) : Prop :=
  match o with
  | none => l = -nI 1
  | some x => w = iI x.1 ∧ c = nI x.2.1 ∧ l = nI x.2.2
/-- what the reference holds of it -/
def rowR (o : Option (Int × Nat × Nat)) (w c l : Int32) : Prop :=
  match o with
  | none => w = -nI 1000000000
  | some x => w = iI x.1 ∧ c = nI x.2.1 ∧ l = nI x.2.2
theorem far_ne {w : Int} (h : -100000 ≤ w) (h2 : w ≤ 100000) : (iI w = -nI 1000000000) = False := by
  rw [iI_n, iI_neg, iI_eq (by omega) (by omega) (by omega) (by omega)]
  exact eq_false (by omega)
theorem iI_0 : iI 0 = nI 0 := (iI_n 0).symm
section
variable {A : Nat → Nat} {st chg : Nat → Int32} {a : Nat → Int64}
theorem p_durationFrom (hV : VA A) (hS : ∀ s, s ≤ A 6 → st s = nI (sp A s)) {s e : Nat} (hse : s ≤ e) (he : e < A 6) : F_X0_durationFrom (nI s) (nI e) st = some (nI (sp A (e + 1) - sp A s)) := by
  have hn := hV.n
  have hm := sp_mono A (s := s) (t := e + 1) (by omega)
  simp (disch := omega) only [fa_lit, fa_litL, nI_add, pk_mul, pk_sub, nI_clamp, gi_n, gb_0, gb_1, nI_ltI, nI_leI, nI_eq, lc_lt, lc_gt, lc_ge, lc_le, lc_eq, lN_i, nI_l, lN_add, lN_mul, lN_lt, lN_le, lN_eq, mI_eqR, mI_eqL, mI_ltL, mI_ltR, mI_leL, mI_leR, mI_add, ob1_some, ob2_some, ob3_some, ob4_some, ob5_some, ob6_some, ob7_some, ob8_some, if_true, if_false, if_pos, if_neg, Sum.elim_inl, Sum.elim_inr, un1, un2, un3, un4, un5, Nat.zero_add, Nat.add_zero, Nat.mul_one, Nat.mul_zero, Nat.sub_zero, pk_us, pk_uLs, xoq_l, xoq_r, nI_sle, F_X0_durationFrom, hS]
theorem p_isLongEnough (hV : VA A) (hS : ∀ s, s ≤ A 6 → st s = nI (sp A s)) {s e : Nat} (hse : s ≤ e) (he : e < A 6) : F_X0_isLongEnough (nI s) (nI e) (nI (A 0)) (nI (A 1)) st = some (bI (lg A s e)) := by
  have hn := hV.n
  have hm := sp_mono A (s := s) (t := e + 1) (by omega)
  have hb := sp_b hV (s := e + 1) (by omega)
  have h0 := hV.s0
  have h1 := hV.s1
  by_cases h2 : sp A (e + 1) - sp A s < A 0
  · rw [bI_0 (fun h : lg A s e => by have h3 := h.1; omega)]
    simp (disch := omega) only [fa_lit, fa_litL, nI_add, pk_mul, pk_sub, nI_clamp, gi_n, gb_0, gb_1, nI_ltI, nI_leI, nI_eq, lc_lt, lc_gt, lc_ge, lc_le, lc_eq, lN_i, nI_l, lN_add, lN_mul, lN_lt, lN_le, lN_eq, mI_eqR, mI_eqL, mI_ltL, mI_ltR, mI_leL, mI_leR, mI_add, ob1_some, ob2_some, ob3_some, ob4_some, ob5_some, ob6_some, ob7_some, ob8_some, if_true, if_false, if_pos, if_neg, Sum.elim_inl, Sum.elim_inr, un1, un2, un3, un4, un5, Nat.zero_add, Nat.add_zero, Nat.mul_one, Nat.mul_zero, Nat.sub_zero, pk_us, pk_uLs, xoq_l, xoq_r, nI_sle, F_X0_isLongEnough, p_durationFrom hV hS]
  · by_cases h3 : A 1 < sp A (e + 1) - sp A s
    · rw [bI_0 (fun h : lg A s e => by have h4 := h.2; omega)]
      simp (disch := omega) only [fa_lit, fa_litL, nI_add, pk_mul, pk_sub, nI_clamp, gi_n, gb_0, gb_1, nI_ltI, nI_leI, nI_eq, lc_lt, lc_gt, lc_ge, lc_le, lc_eq, lN_i, nI_l, lN_add, lN_mul, lN_lt, lN_le, lN_eq, mI_eqR, mI_eqL, mI_ltL, mI_ltR, mI_leL, mI_leR, mI_add, ob1_some, ob2_some, ob3_some, ob4_some, ob5_some, ob6_some, ob7_some, ob8_some, if_true, if_false, if_pos, if_neg, Sum.elim_inl, Sum.elim_inr, un1, un2, un3, un4, un5, Nat.zero_add, Nat.add_zero, Nat.mul_one, Nat.mul_zero, Nat.sub_zero, pk_us, pk_uLs, xoq_l, xoq_r, nI_sle, F_X0_isLongEnough, p_durationFrom hV hS]
    · rw [bI_1 (show lg A s e from ⟨by omega, by omega⟩)]
      simp (disch := omega) only [fa_lit, fa_litL, nI_add, pk_mul, pk_sub, nI_clamp, gi_n, gb_0, gb_1, nI_ltI, nI_leI, nI_eq, lc_lt, lc_gt, lc_ge, lc_le, lc_eq, lN_i, nI_l, lN_add, lN_mul, lN_lt, lN_le, lN_eq, mI_eqR, mI_eqL, mI_ltL, mI_ltR, mI_leL, mI_leR, mI_add, ob1_some, ob2_some, ob3_some, ob4_some, ob5_some, ob6_some, ob7_some, ob8_some, if_true, if_false, if_pos, if_neg, Sum.elim_inl, Sum.elim_inr, un1, un2, un3, un4, un5, Nat.zero_add, Nat.add_zero, Nat.mul_one, Nat.mul_zero, Nat.sub_zero, pk_us, pk_uLs, xoq_l, xoq_r, nI_sle, F_X0_isLongEnough, p_durationFrom hV hS]
theorem p_con60 {s e : Nat} {w : Int} {c : Nat} {o : Option (Int × Nat × Nat)} {W C L : Nat → Int32} (hs : s < 32) (he : e < 32) (hw : -100000 ≤ w ∧ w ≤ 100000) (hc : c ≤ 1000) (ho : rowC o (W s) (C s) (L s)) (hob : ∀ x, o = some x → -100000 ≤ x.1 ∧ x.1 ≤ 100000 ∧ x.2.1 ≤ 1000 ∧ x.2.2 < 32) :
    ∃ W' C' L', F_X0_consider_b60 (nI s) (nI e) (iI w) (nI c) W C L = some (W', C', L') ∧ rowC (dMg o (some (w, c, e))) (W' s) (C' s) (L' s) ∧ ∀ t, t ≠ s → W' t = W t ∧ C' t = C t ∧ L' t = L t := by
  have up : F_X0_consider_b103 (nI s) (nI e) (iI w) (nI c) W C L = some (upd W s (iI w), upd C s (nI c), upd L s (nI e)) := by
    simp (disch := omega) only [fa_lit, fa_litL, nI_add, pk_mul, pk_sub, nI_clamp, gi_n, gb_0, gb_1, nI_ltI, nI_leI, nI_eq, lc_lt, lc_gt, lc_ge, lc_le, lc_eq, lN_i, nI_l, lN_add, lN_mul, lN_lt, lN_le, lN_eq, mI_eqR, mI_eqL, mI_ltL, mI_ltR, mI_leL, mI_leR, mI_add, ob1_some, ob2_some, ob3_some, ob4_some, ob5_some, ob6_some, ob7_some, ob8_some, if_true, if_false, if_pos, if_neg, Sum.elim_inl, Sum.elim_inr, un1, un2, un3, un4, un5, Nat.zero_add, Nat.add_zero, Nat.mul_one, Nat.mul_zero, Nat.sub_zero, pk_us, pk_uLs, xoq_l, xoq_r, nI_sle, F_X0_consider_b103, F_X0_consider_b108]
  have no : F_X0_consider_b107 (nI s) (nI e) (iI w) (nI c) W C L = some (W, C, L) := by
    simp (disch := omega) only [fa_lit, fa_litL, nI_add, pk_mul, pk_sub, nI_clamp, gi_n, gb_0, gb_1, nI_ltI, nI_leI, nI_eq, lc_lt, lc_gt, lc_ge, lc_le, lc_eq, lN_i, nI_l, lN_add, lN_mul, lN_lt, lN_le, lN_eq, mI_eqR, mI_eqL, mI_ltL, mI_ltR, mI_leL, mI_leR, mI_add, ob1_some, ob2_some, ob3_some, ob4_some, ob5_some, ob6_some, ob7_some, ob8_some, if_true, if_false, if_pos, if_neg, Sum.elim_inl, Sum.elim_inr, un1, un2, un3, un4, un5, Nat.zero_add, Nat.add_zero, Nat.mul_one, Nat.mul_zero, Nat.sub_zero, pk_us, pk_uLs, xoq_l, xoq_r, nI_sle, F_X0_consider_b107, F_X0_consider_b108]
  have hr : rowC (some (w, c, e)) (upd W s (iI w) s) (upd C s (nI c) s) (upd L s (nI e) s) := ⟨pk_us, pk_us, pk_us⟩
  have hk : ∀ t, t ≠ s → upd W s (iI w) t = W t ∧ upd C s (nI c) t = C t ∧ upd L s (nI e) t = L t := fun t ht => ⟨pk_un ht, pk_un ht, pk_un ht⟩
  cases o with
  | none =>
    have h1 : L s = -nI 1 := ho
    refine ⟨_, _, _, ?_, hr, hk⟩
    simp (disch := omega) only [fa_lit, fa_litL, nI_add, pk_mul, pk_sub, nI_clamp, gi_n, gb_0, gb_1, nI_ltI, nI_leI, nI_eq, lc_lt, lc_gt, lc_ge, lc_le, lc_eq, lN_i, nI_l, lN_add, lN_mul, lN_lt, lN_le, lN_eq, mI_eqR, mI_eqL, mI_ltL, mI_ltR, mI_leL, mI_leR, mI_add, ob1_some, ob2_some, ob3_some, ob4_some, ob5_some, ob6_some, ob7_some, ob8_some, if_true, if_false, if_pos, if_neg, Sum.elim_inl, Sum.elim_inr, un1, un2, un3, un4, un5, Nat.zero_add, Nat.add_zero, Nat.mul_one, Nat.mul_zero, Nat.sub_zero, pk_us, pk_uLs, xoq_l, xoq_r, nI_sle, F_X0_consider_b60, h1, up]
  | some x =>
    obtain ⟨xw, xc, xe⟩ := x
    obtain ⟨h1, h2, h3⟩ := ho
    have h4 := hob _ rfl
    dsimp only at h1 h2 h3 h4
    by_cases g1 : xw < w
    · rw [show dMg (some (xw, xc, xe)) (some (w, c, e)) = some (w, c, e) from if_pos (Or.inl g1)]
      refine ⟨_, _, _, ?_, hr, hk⟩
      simp (disch := omega) only [fa_lit, fa_litL, nI_add, pk_mul, pk_sub, nI_clamp, gi_n, gb_0, gb_1, nI_ltI, nI_leI, nI_eq, lc_lt, lc_gt, lc_ge, lc_le, lc_eq, lN_i, nI_l, lN_add, lN_mul, lN_lt, lN_le, lN_eq, mI_eqR, mI_eqL, mI_ltL, mI_ltR, mI_leL, mI_leR, mI_add, ob1_some, ob2_some, ob3_some, ob4_some, ob5_some, ob6_some, ob7_some, ob8_some, if_true, if_false, if_pos, if_neg, Sum.elim_inl, Sum.elim_inr, un1, un2, un3, un4, un5, Nat.zero_add, Nat.add_zero, Nat.mul_one, Nat.mul_zero, Nat.sub_zero, pk_us, pk_uLs, xoq_l, xoq_r, nI_sle, F_X0_consider_b60, h1, h2, h3, iI_lt, up]
    · by_cases g2 : w = xw
      · subst g2
        by_cases g3 : c < xc
        · rw [show dMg (some (w, xc, xe)) (some (w, c, e)) = some (w, c, e) from if_pos (Or.inr ⟨rfl, g3⟩)]
          refine ⟨_, _, _, ?_, hr, hk⟩
          simp (disch := omega) only [fa_lit, fa_litL, nI_add, pk_mul, pk_sub, nI_clamp, gi_n, gb_0, gb_1, nI_ltI, nI_leI, nI_eq, lc_lt, lc_gt, lc_ge, lc_le, lc_eq, lN_i, nI_l, lN_add, lN_mul, lN_lt, lN_le, lN_eq, mI_eqR, mI_eqL, mI_ltL, mI_ltR, mI_leL, mI_leR, mI_add, ob1_some, ob2_some, ob3_some, ob4_some, ob5_some, ob6_some, ob7_some, ob8_some, if_true, if_false, if_pos, if_neg, Sum.elim_inl, Sum.elim_inr, un1, un2, un3, un4, un5, Nat.zero_add, Nat.add_zero, Nat.mul_one, Nat.mul_zero, Nat.sub_zero, pk_us, pk_uLs, xoq_l, xoq_r, nI_sle, F_X0_consider_b60, h1, h2, h3, iI_lt, up]
        · rw [show dMg (some (w, xc, xe)) (some (w, c, e)) = some (w, xc, xe) from if_neg (fun h => by rcases h with h | h; exact absurd h g1; exact g3 h.2)]
          refine ⟨W, C, L, ?_, ⟨h1, h2, h3⟩, fun t _ => ⟨rfl, rfl, rfl⟩⟩
          simp (disch := omega) only [fa_lit, fa_litL, nI_add, pk_mul, pk_sub, nI_clamp, gi_n, gb_0, gb_1, nI_ltI, nI_leI, nI_eq, lc_lt, lc_gt, lc_ge, lc_le, lc_eq, lN_i, nI_l, lN_add, lN_mul, lN_lt, lN_le, lN_eq, mI_eqR, mI_eqL, mI_ltL, mI_ltR, mI_leL, mI_leR, mI_add, ob1_some, ob2_some, ob3_some, ob4_some, ob5_some, ob6_some, ob7_some, ob8_some, if_true, if_false, if_pos, if_neg, Sum.elim_inl, Sum.elim_inr, un1, un2, un3, un4, un5, Nat.zero_add, Nat.add_zero, Nat.mul_one, Nat.mul_zero, Nat.sub_zero, pk_us, pk_uLs, xoq_l, xoq_r, nI_sle, F_X0_consider_b60, h1, h2, h3, iI_lt, no]
      · rw [show dMg (some (xw, xc, xe)) (some (w, c, e)) = some (xw, xc, xe) from if_neg (fun h => by rcases h with h | h; exact absurd h g1; exact g2 h.1)]
        refine ⟨W, C, L, ?_, ⟨h1, h2, h3⟩, fun t _ => ⟨rfl, rfl, rfl⟩⟩
        simp (disch := omega) only [fa_lit, fa_litL, nI_add, pk_mul, pk_sub, nI_clamp, gi_n, gb_0, gb_1, nI_ltI, nI_leI, nI_eq, lc_lt, lc_gt, lc_ge, lc_le, lc_eq, lN_i, nI_l, lN_add, lN_mul, lN_lt, lN_le, lN_eq, mI_eqR, mI_eqL, mI_ltL, mI_ltR, mI_leL, mI_leR, mI_add, ob1_some, ob2_some, ob3_some, ob4_some, ob5_some, ob6_some, ob7_some, ob8_some, if_true, if_false, if_pos, if_neg, Sum.elim_inl, Sum.elim_inr, un1, un2, un3, un4, un5, Nat.zero_add, Nat.add_zero, Nat.mul_one, Nat.mul_zero, Nat.sub_zero, pk_us, pk_uLs, xoq_l, xoq_r, nI_sle, F_X0_consider_b60, h1, h2, h3, iI_lt, iI_eq, no]
theorem p_consider {n p s e : Nat} {c : Nat → Nat} {T : Nat → Option (Int × Nat × Nat)} {o : Option (Int × Nat × Nat)} {W C L : Nat → Int32} (hn : n ≤ 32) (hse : s ≤ e) (he : e < n) (hp : p ≤ 100) (hc : ∀ e, c e ≤ 100) (hch : ∀ e, e + 1 < n → chg e = nI (c e)) (ho : rowC o (W s) (C s) (L s)) (hob : dB n s o) (hT : e + 1 < n → rowC (T (e + 1)) (W (e + 1)) (C (e + 1)) (L (e + 1))) (hTb : e + 1 < n → dB n (e + 1) (T (e + 1))) :
    ∃ W' C' L', F_X0_consider (nI s) (nI e) (nI p) (nI n) chg W C L = some (W', C', L') ∧ rowC (dMg o (dCe n (fun e => (c e : Int) - p) T e)) (W' s) (C' s) (L' s) ∧ ∀ t, t ≠ s → W' t = W t ∧ C' t = C t ∧ L' t = L t := by
  have hob' : ∀ x, o = some x → -100000 ≤ x.1 ∧ x.1 ≤ 100000 ∧ x.2.1 ≤ 1000 ∧ x.2.2 < 32 := fun x hx => by have := hob x hx; omega
  unfold dCe
  by_cases h : e + 1 = n
  · rw [if_pos h]
    obtain ⟨W', C', L', g1, g2⟩ := p_con60 (s := s) (e := e) (w := 0) (c := 0) (by omega) (by omega) (by omega) (by omega) ho hob'
    rw [iI_0] at g1
    refine ⟨W', C', L', ?_, g2⟩
    simp (disch := omega) only [fa_lit, fa_litL, nI_add, pk_mul, pk_sub, nI_clamp, gi_n, gb_0, gb_1, nI_ltI, nI_leI, nI_eq, lc_lt, lc_gt, lc_ge, lc_le, lc_eq, lN_i, nI_l, lN_add, lN_mul, lN_lt, lN_le, lN_eq, mI_eqR, mI_eqL, mI_ltL, mI_ltR, mI_leL, mI_leR, mI_add, ob1_some, ob2_some, ob3_some, ob4_some, ob5_some, ob6_some, ob7_some, ob8_some, if_true, if_false, if_pos, if_neg, Sum.elim_inl, Sum.elim_inr, un1, un2, un3, un4, un5, Nat.zero_add, Nat.add_zero, Nat.mul_one, Nat.mul_zero, Nat.sub_zero, pk_us, pk_uLs, xoq_l, xoq_r, nI_sle, F_X0_consider, g1]
  · rw [if_neg h]
    have h2 := hT (by omega)
    have h3 := hTb (by omega)
    cases hTe : T (e + 1) with
    | none =>
      rw [hTe] at h2
      have h4 : L (e + 1) = -nI 1 := h2
      refine ⟨W, C, L, ?_, ?_, fun t _ => ⟨rfl, rfl, rfl⟩⟩
      · simp (disch := omega) only [fa_lit, fa_litL, nI_add, pk_mul, pk_sub, nI_clamp, gi_n, gb_0, gb_1, nI_ltI, nI_leI, nI_eq, lc_lt, lc_gt, lc_ge, lc_le, lc_eq, lN_i, nI_l, lN_add, lN_mul, lN_lt, lN_le, lN_eq, mI_eqR, mI_eqL, mI_ltL, mI_ltR, mI_leL, mI_leR, mI_add, ob1_some, ob2_some, ob3_some, ob4_some, ob5_some, ob6_some, ob7_some, ob8_some, if_true, if_false, if_pos, if_neg, Sum.elim_inl, Sum.elim_inr, un1, un2, un3, un4, un5, Nat.zero_add, Nat.add_zero, Nat.mul_one, Nat.mul_zero, Nat.sub_zero, pk_us, pk_uLs, xoq_l, xoq_r, nI_sle, F_X0_consider, h4]
      · exact ho
    | some y =>
      rw [hTe] at h2
      obtain ⟨yw, yc, ye⟩ := y
      have h5 := h3 _ hTe
      obtain ⟨h6, h7, h8⟩ := h2
      dsimp only at h5 h6 h7 h8
      have h9 := hc e
      have h10 := hch e (by omega)
      obtain ⟨W', C', L', g1, g2⟩ := p_con60 (s := s) (e := e) (w := (c e : Int) - p + yw) (c := yc + 1) (by omega) (by omega) (by omega) (by omega) ho hob'
      refine ⟨W', C', L', ?_, g2⟩
      have e1 : nI (c e) - nI p + iI yw = iI ((c e : Int) - p + yw) := by rw [nI_iSub, iI_add]
      simp (disch := omega) only [fa_lit, fa_litL, nI_add, pk_mul, pk_sub, nI_clamp, gi_n, gb_0, gb_1, nI_ltI, nI_leI, nI_eq, lc_lt, lc_gt, lc_ge, lc_le, lc_eq, lN_i, nI_l, lN_add, lN_mul, lN_lt, lN_le, lN_eq, mI_eqR, mI_eqL, mI_ltL, mI_ltR, mI_leL, mI_leR, mI_add, ob1_some, ob2_some, ob3_some, ob4_some, ob5_some, ob6_some, ob7_some, ob8_some, if_true, if_false, if_pos, if_neg, Sum.elim_inl, Sum.elim_inr, un1, un2, un3, un4, un5, Nat.zero_add, Nat.add_zero, Nat.mul_one, Nat.mul_zero, Nat.sub_zero, pk_us, pk_uLs, xoq_l, xoq_r, nI_sle, F_X0_consider, h6, h7, h8, h10, e1, g1]
/-- one end that is tried, by the class -/
theorem p_solveStep (hV : VA A) (hS : ∀ s, s ≤ A 6 → st s = nI (sp A s)) {w b s e : Nat} {x1 : Int32} (hse : s ≤ e) (he : e < A 6) (k : Int32 × (Nat → Int32) × (Nat → Int32) × (Nat → Int32) → Option ((Nat → Int32) × (Nat → Int32) × (Nat → Int32))) (W C L : Nat → Int32) :
    S_X0_solve_25 x1 (rI w 32) (rI b 32) (nI s) (nI (A 6)) (nI (A 0)) (nI (A 1)) chg st k (nI e) W C L = if okc A w b s e = true then ob3 (F_X0_consider (nI s) (nI e) x1 (nI (A 6)) chg W C L) (fun W C L => k (nI (e + 1), W, C, L)) else k (nI (e + 1), W, C, L) := by
  have hn := hV.n
  have hl := p_isLongEnough hV hS hse he
  by_cases h1 : lg A s e
  · rw [bI_1 h1] at hl
    by_cases h2 : s ≤ w ∧ w < 32
    · by_cases h3 : e ≤ w
      · by_cases h4 : e = b
        · rw [if_neg (fun h => (okc_iff.mp h).2.2 h4)]
          simp (disch := omega) only [fa_lit, fa_litL, nI_add, pk_mul, pk_sub, nI_clamp, gi_n, gb_0, gb_1, nI_ltI, nI_leI, nI_eq, lc_lt, lc_gt, lc_ge, lc_le, lc_eq, lN_i, nI_l, lN_add, lN_mul, lN_lt, lN_le, lN_eq, mI_eqR, mI_eqL, mI_ltL, mI_ltR, mI_leL, mI_leR, mI_add, ob1_some, ob2_some, ob3_some, ob4_some, ob5_some, ob6_some, ob7_some, ob8_some, if_true, if_false, if_pos, if_neg, Sum.elim_inl, Sum.elim_inr, un1, un2, un3, un4, un5, Nat.zero_add, Nat.add_zero, Nat.mul_one, Nat.mul_zero, Nat.sub_zero, pk_us, pk_uLs, xoq_l, xoq_r, nI_sle, S_X0_solve_25, F_X0_solve_b50, F_X0_solve_b51, w_lt, w_le, w_eq, hl]
        · rw [if_pos (okc_iff.mpr ⟨h1, by omega, h4⟩)]
          simp (disch := omega) only [fa_lit, fa_litL, nI_add, pk_mul, pk_sub, nI_clamp, gi_n, gb_0, gb_1, nI_ltI, nI_leI, nI_eq, lc_lt, lc_gt, lc_ge, lc_le, lc_eq, lN_i, nI_l, lN_add, lN_mul, lN_lt, lN_le, lN_eq, mI_eqR, mI_eqL, mI_ltL, mI_ltR, mI_leL, mI_leR, mI_add, ob1_some, ob2_some, ob3_some, ob4_some, ob5_some, ob6_some, ob7_some, ob8_some, if_true, if_false, if_pos, if_neg, Sum.elim_inl, Sum.elim_inr, un1, un2, un3, un4, un5, Nat.zero_add, Nat.add_zero, Nat.mul_one, Nat.mul_zero, Nat.sub_zero, pk_us, pk_uLs, xoq_l, xoq_r, nI_sle, S_X0_solve_25, F_X0_solve_b50, F_X0_solve_b51, w_lt, w_le, w_eq, hl]
      · rw [if_neg (fun h => (okc_iff.mp h).2.1 (by omega))]
        simp (disch := omega) only [fa_lit, fa_litL, nI_add, pk_mul, pk_sub, nI_clamp, gi_n, gb_0, gb_1, nI_ltI, nI_leI, nI_eq, lc_lt, lc_gt, lc_ge, lc_le, lc_eq, lN_i, nI_l, lN_add, lN_mul, lN_lt, lN_le, lN_eq, mI_eqR, mI_eqL, mI_ltL, mI_ltR, mI_leL, mI_leR, mI_add, ob1_some, ob2_some, ob3_some, ob4_some, ob5_some, ob6_some, ob7_some, ob8_some, if_true, if_false, if_pos, if_neg, Sum.elim_inl, Sum.elim_inr, un1, un2, un3, un4, un5, Nat.zero_add, Nat.add_zero, Nat.mul_one, Nat.mul_zero, Nat.sub_zero, pk_us, pk_uLs, xoq_l, xoq_r, nI_sle, S_X0_solve_25, F_X0_solve_b50, F_X0_solve_b51, w_lt, w_le, w_eq, hl]
    · by_cases h4 : e = b
      · rw [if_neg (fun h => (okc_iff.mp h).2.2 h4)]
        simp (disch := omega) only [fa_lit, fa_litL, nI_add, pk_mul, pk_sub, nI_clamp, gi_n, gb_0, gb_1, nI_ltI, nI_leI, nI_eq, lc_lt, lc_gt, lc_ge, lc_le, lc_eq, lN_i, nI_l, lN_add, lN_mul, lN_lt, lN_le, lN_eq, mI_eqR, mI_eqL, mI_ltL, mI_ltR, mI_leL, mI_leR, mI_add, ob1_some, ob2_some, ob3_some, ob4_some, ob5_some, ob6_some, ob7_some, ob8_some, if_true, if_false, if_pos, if_neg, Sum.elim_inl, Sum.elim_inr, un1, un2, un3, un4, un5, Nat.zero_add, Nat.add_zero, Nat.mul_one, Nat.mul_zero, Nat.sub_zero, pk_us, pk_uLs, xoq_l, xoq_r, nI_sle, S_X0_solve_25, F_X0_solve_b50, F_X0_solve_b51, w_lt, w_le, w_eq, hl]
      · rw [if_pos (okc_iff.mpr ⟨h1, by omega, h4⟩)]
        simp (disch := omega) only [fa_lit, fa_litL, nI_add, pk_mul, pk_sub, nI_clamp, gi_n, gb_0, gb_1, nI_ltI, nI_leI, nI_eq, lc_lt, lc_gt, lc_ge, lc_le, lc_eq, lN_i, nI_l, lN_add, lN_mul, lN_lt, lN_le, lN_eq, mI_eqR, mI_eqL, mI_ltL, mI_ltR, mI_leL, mI_leR, mI_add, ob1_some, ob2_some, ob3_some, ob4_some, ob5_some, ob6_some, ob7_some, ob8_some, if_true, if_false, if_pos, if_neg, Sum.elim_inl, Sum.elim_inr, un1, un2, un3, un4, un5, Nat.zero_add, Nat.add_zero, Nat.mul_one, Nat.mul_zero, Nat.sub_zero, pk_us, pk_uLs, xoq_l, xoq_r, nI_sle, S_X0_solve_25, F_X0_solve_b50, F_X0_solve_b51, w_lt, w_le, w_eq, hl]
  · rw [bI_0 h1] at hl
    rw [if_neg (fun h => h1 (okc_iff.mp h).1)]
    by_cases h2 : s ≤ w ∧ w < 32
    · by_cases h3 : e ≤ w
      · simp (disch := omega) only [fa_lit, fa_litL, nI_add, pk_mul, pk_sub, nI_clamp, gi_n, gb_0, gb_1, nI_ltI, nI_leI, nI_eq, lc_lt, lc_gt, lc_ge, lc_le, lc_eq, lN_i, nI_l, lN_add, lN_mul, lN_lt, lN_le, lN_eq, mI_eqR, mI_eqL, mI_ltL, mI_ltR, mI_leL, mI_leR, mI_add, ob1_some, ob2_some, ob3_some, ob4_some, ob5_some, ob6_some, ob7_some, ob8_some, if_true, if_false, if_pos, if_neg, Sum.elim_inl, Sum.elim_inr, un1, un2, un3, un4, un5, Nat.zero_add, Nat.add_zero, Nat.mul_one, Nat.mul_zero, Nat.sub_zero, pk_us, pk_uLs, xoq_l, xoq_r, nI_sle, S_X0_solve_25, F_X0_solve_b50, F_X0_solve_b51, w_lt, w_le, w_eq, hl]
      · simp (disch := omega) only [fa_lit, fa_litL, nI_add, pk_mul, pk_sub, nI_clamp, gi_n, gb_0, gb_1, nI_ltI, nI_leI, nI_eq, lc_lt, lc_gt, lc_ge, lc_le, lc_eq, lN_i, nI_l, lN_add, lN_mul, lN_lt, lN_le, lN_eq, mI_eqR, mI_eqL, mI_ltL, mI_ltR, mI_leL, mI_leR, mI_add, ob1_some, ob2_some, ob3_some, ob4_some, ob5_some, ob6_some, ob7_some, ob8_some, if_true, if_false, if_pos, if_neg, Sum.elim_inl, Sum.elim_inr, un1, un2, un3, un4, un5, Nat.zero_add, Nat.add_zero, Nat.mul_one, Nat.mul_zero, Nat.sub_zero, pk_us, pk_uLs, xoq_l, xoq_r, nI_sle, S_X0_solve_25, F_X0_solve_b50, F_X0_solve_b51, w_lt, w_le, w_eq, hl]
    · simp (disch := omega) only [fa_lit, fa_litL, nI_add, pk_mul, pk_sub, nI_clamp, gi_n, gb_0, gb_1, nI_ltI, nI_leI, nI_eq, lc_lt, lc_gt, lc_ge, lc_le, lc_eq, lN_i, nI_l, lN_add, lN_mul, lN_lt, lN_le, lN_eq, mI_eqR, mI_eqL, mI_ltL, mI_ltR, mI_leL, mI_leR, mI_add, ob1_some, ob2_some, ob3_some, ob4_some, ob5_some, ob6_some, ob7_some, ob8_some, if_true, if_false, if_pos, if_neg, Sum.elim_inl, Sum.elim_inr, un1, un2, un3, un4, un5, Nat.zero_add, Nat.add_zero, Nat.mul_one, Nat.mul_zero, Nat.sub_zero, pk_us, pk_uLs, xoq_l, xoq_r, nI_sle, S_X0_solve_25, F_X0_solve_b50, F_X0_solve_b51, w_lt, w_le, w_eq, hl]
theorem p_solveIn (hV : VA A) (hS : ∀ s, s ≤ A 6 → st s = nI (sp A s)) {w b s p : Nat} {c : Nat → Nat} {T : Nat → Option (Int × Nat × Nat)} {W C L : Nat → Int32} (hs : s < A 6) (hp : p ≤ 100) (hc : ∀ e, c e ≤ 100) (hch : ∀ e, e + 1 < A 6 → chg e = nI (c e)) (hL : L s = -nI 1) (hT : ∀ t, s < t → t < A 6 → rowC (T t) (W t) (C t) (L t)) (hTb : ∀ t, s < t → t < A 6 → dB (A 6) t (T t)) :
    ∃ W' C' L', wh (fun k q => S_X0_solve_25 (nI p) (rI w 32) (rI b 32) (nI s) (nI (A 6)) (nI (A 0)) (nI (A 1)) chg st k q.1 q.2.1 q.2.2.1 q.2.2.2) wF (nI s, W, C, L) = some (W', C', L') ∧ rowC (dIn (A 6) (okc A w b) (fun e => (c e : Int) - p) T s (A 6 - s)) (W' s) (C' s) (L' s) ∧ ∀ t, t ≠ s → W' t = W t ∧ C' t = C t ∧ L' t = L t := by
  have hn := hV.n
  refine wh_up (A 6 - s) (by omega) (fun (j : Nat) (q : Int32 × (Nat → Int32) × (Nat → Int32) × (Nat → Int32)) => q.1 = nI (s + j) ∧ rowC (dIn (A 6) (okc A w b) (fun e => (c e : Int) - p) T s j) (q.2.1 s) (q.2.2.1 s) (q.2.2.2 s) ∧ ∀ t, t ≠ s → q.2.1 t = W t ∧ q.2.2.1 t = C t ∧ q.2.2.2 t = L t) (fun (o : Option (((Nat → Int32) × (Nat → Int32) × (Nat → Int32)))) => ∃ W' C' L', o = some (W', C', L') ∧ rowC (dIn (A 6) (okc A w b) (fun e => (c e : Int) - p) T s (A 6 - s)) (W' s) (C' s) (L' s) ∧ ∀ t, t ≠ s → W' t = W t ∧ C' t = C t ∧ L' t = L t) (fun j q hj hI k hk => ?_) (Nat.zero_le _) ⟨rfl, hL, fun t _ => ⟨rfl, rfl, rfl⟩⟩
  obtain ⟨l, P1, P2, P3⟩ := q
  obtain ⟨e1, e2, e3⟩ := hI
  have e1 : l = nI (s + j) := e1
  subst e1
  have e2 : rowC (dIn (A 6) (okc A w b) (fun e => (c e : Int) - p) T s j) (P1 s) (P2 s) (P3 s) := e2
  have e3 : ∀ t, t ≠ s → P1 t = W t ∧ P2 t = C t ∧ P3 t = L t := e3
  by_cases hlt : j < A 6 - s
  · show ∃ W' C' L', S_X0_solve_25 (nI p) (rI w 32) (rI b 32) (nI s) (nI (A 6)) (nI (A 0)) (nI (A 1)) chg st k (nI (s + j)) P1 P2 P3 = some (W', C', L') ∧ _
    rw [p_solveStep hV hS (by omega) (by omega)]
    by_cases hok : okc A w b s (s + j) = true
    · rw [if_pos hok]
      have hb := dIn_b (n := A 6) (s := s) (ok := okc A w b) (g := fun e => (c e : Int) - p) (T := T) (fun e => by have := hc e; omega) hTb j (by omega)
      obtain ⟨W', C', L', g1, g2, g3⟩ := p_consider (n := A 6) (p := p) (s := s) (e := s + j) (c := c) (T := T) (chg := chg) hn (by omega) (by omega) hp hc hch e2 hb (fun h => by
        have h4 := e3 (s + j + 1) (by omega)
        rw [h4.1, h4.2.1, h4.2.2]
        exact hT _ (by omega) h) (fun h => hTb _ (by omega) h)
      rw [ob3_s g1]
      refine hk hlt (nI (s + j + 1), W', C', L') ⟨rfl, ?_, fun t ht => ?_⟩
      · show rowC (dIn (A 6) (okc A w b) (fun e => (c e : Int) - p) T s (j + 1)) (W' s) (C' s) (L' s)
        rw [dIn_s, if_pos hok]; exact g2
      · have h5 := g3 t ht
        have h6 := e3 t ht
        exact ⟨h5.1.trans h6.1, h5.2.1.trans h6.2.1, h5.2.2.trans h6.2.2⟩
    · rw [if_neg hok]
      refine hk hlt (nI (s + j + 1), P1, P2, P3) ⟨rfl, ?_, e3⟩
      show rowC (dIn (A 6) (okc A w b) (fun e => (c e : Int) - p) T s (j + 1)) (P1 s) (P2 s) (P3 s)
      rw [dIn_s, if_neg hok]; exact e2
  · have h8 : j = A 6 - s := by omega
    subst h8
    refine ⟨P1, P2, P3, ?_, e2, e3⟩
    simp (disch := omega) only [fa_lit, fa_litL, nI_add, pk_mul, pk_sub, nI_clamp, gi_n, gb_0, gb_1, nI_ltI, nI_leI, nI_eq, lc_lt, lc_gt, lc_ge, lc_le, lc_eq, lN_i, nI_l, lN_add, lN_mul, lN_lt, lN_le, lN_eq, mI_eqR, mI_eqL, mI_ltL, mI_ltR, mI_leL, mI_leR, mI_add, ob1_some, ob2_some, ob3_some, ob4_some, ob5_some, ob6_some, ob7_some, ob8_some, if_true, if_false, if_pos, if_neg, Sum.elim_inl, Sum.elim_inr, un1, un2, un3, un4, un5, Nat.zero_add, Nat.add_zero, Nat.mul_one, Nat.mul_zero, Nat.sub_zero, pk_us, pk_uLs, xoq_l, xoq_r, nI_sle, S_X0_solve_25]
theorem dTb_0 (n : Nat) (ok : Nat → Nat → Bool) (g : Nat → Int) (d : Nat) : dTb n ok g (d + 1) (n - (d + 1)) = dIn n ok g (dTb n ok g d) (n - (d + 1)) (d + 1) := if_pos rfl
theorem dTb_n (n : Nat) (ok : Nat → Nat → Bool) (g : Nat → Int) {d t : Nat} (h : t ≠ n - (d + 1)) : dTb n ok g (d + 1) t = dTb n ok g d t := if_neg h
theorem dn_m1 {n d : Nat} (h : d < n) : nI (n - d - 1) + -nI 1 = nI (n - (d + 1)) - nI 1 := by
  rw [← Int32.sub_eq_add_neg]; rfl
/-- the best division's table, by the class -/
theorem p_solve (hV : VA A) (hS : ∀ s, s ≤ A 6 → st s = nI (sp A s)) {w b p : Nat} {c : Nat → Nat} {W C L : Nat → Int32} (hp : p ≤ 100) (hc : ∀ e, c e ≤ 100) (hch : ∀ e, e + 1 < A 6 → chg e = nI (c e)) :
    ∃ W' C' L', F_X0_solve (nI p) (rI w 32) (rI b 32) (nI (A 6)) (nI (A 0)) (nI (A 1)) chg W C L st = some (bI (0 < A 6 ∧ (dTb (A 6) (okc A w b) (fun e => (c e : Int) - p) (A 6) 0).isSome = true), W', C', L') ∧ ∀ t, t < A 6 → rowC (dTb (A 6) (okc A w b) (fun e => (c e : Int) - p) (A 6) t) (W' t) (C' t) (L' t) := by
  have hn := hV.n
  have key : ∃ W' C' L', wh (fun k q => S_X0_solve_8 (nI p) (rI w 32) (rI b 32) (nI (A 6)) (nI (A 0)) (nI (A 1)) chg st k q.1 q.2.1 q.2.2.1 q.2.2.2) wF (nI (A 6) - nI 1, W, C, L) = some (W', C', L') ∧ ∀ t, t < A 6 → rowC (dTb (A 6) (okc A w b) (fun e => (c e : Int) - p) (A 6) t) (W' t) (C' t) (L' t) := by
    refine wh_up (A 6) (by omega) (fun (d : Nat) (q : Int32 × (Nat → Int32) × (Nat → Int32) × (Nat → Int32)) => q.1 = nI (A 6 - d) - nI 1 ∧ ∀ t, A 6 ≤ t + d → t < A 6 → rowC (dTb (A 6) (okc A w b) (fun e => (c e : Int) - p) d t) (q.2.1 t) (q.2.2.1 t) (q.2.2.2 t)) (fun (o : Option (((Nat → Int32) × (Nat → Int32) × (Nat → Int32)))) => ∃ W' C' L', o = some (W', C', L') ∧ ∀ t, t < A 6 → rowC (dTb (A 6) (okc A w b) (fun e => (c e : Int) - p) (A 6) t) (W' t) (C' t) (L' t)) (fun d q hd hI k hk => ?_) (Nat.zero_le _) ⟨rfl, fun t h1 h2 => by omega⟩
    obtain ⟨l, P1, P2, P3⟩ := q
    obtain ⟨e1, e2⟩ := hI
    have e1 : l = nI (A 6 - d) - nI 1 := e1
    subst e1
    have e2 : ∀ t, A 6 ≤ t + d → t < A 6 → rowC (dTb (A 6) (okc A w b) (fun e => (c e : Int) - p) d t) (P1 t) (P2 t) (P3 t) := e2
    by_cases hlt : d < A 6
    · have hb := dTb_b (n := A 6) (ok := okc A w b) (g := fun e => (c e : Int) - p) (fun e => by have := hc e; omega) d hd
      obtain ⟨W', C', L', g1, g2, g3⟩ := p_solveIn (w := w) (b := b) (s := A 6 - (d + 1)) (T := dTb (A 6) (okc A w b) (fun e => (c e : Int) - p) d) (W := P1) (C := P2) (L := upd P3 (A 6 - (d + 1)) (-nI 1)) hV hS (by omega) hp hc hch pk_us (fun t h1 h2 => by
        rw [pk_un (by omega)]
        exact e2 t (by omega) h2) (fun t h1 h2 => hb t h2)
      have h9 := hk hlt (nI (A 6 - (d + 1)) - nI 1, W', C', L') ⟨rfl, fun t h1 h2 => ?_⟩
      · have h7 : A 6 - d - 1 = A 6 - (d + 1) := by omega
        rw [← h7] at g1
        simp (disch := omega) only [fa_lit, fa_litL, nI_add, pk_mul, pk_sub, nI_clamp, gi_n, gb_0, gb_1, nI_ltI, nI_leI, nI_eq, lc_lt, lc_gt, lc_ge, lc_le, lc_eq, lN_i, nI_l, lN_add, lN_mul, lN_lt, lN_le, lN_eq, mI_eqR, mI_eqL, mI_ltL, mI_ltR, mI_leL, mI_leR, mI_add, ob1_some, ob2_some, ob3_some, ob4_some, ob5_some, ob6_some, ob7_some, ob8_some, if_true, if_false, if_pos, if_neg, Sum.elim_inl, Sum.elim_inr, un1, un2, un3, un4, un5, Nat.zero_add, Nat.add_zero, Nat.mul_one, Nat.mul_zero, Nat.sub_zero, pk_us, pk_uLs, xoq_l, xoq_r, nI_sle, S_X0_solve_8, g1, dn_m1]
        exact h9
      · show rowC (dTb (A 6) (okc A w b) (fun e => (c e : Int) - p) (d + 1) t) (W' t) (C' t) (L' t)
        by_cases h3 : t = A 6 - (d + 1)
        · subst h3
          rw [dTb_0]
          rw [show A 6 - (A 6 - (d + 1)) = d + 1 by omega] at g2
          exact g2
        · rw [dTb_n _ _ _ h3]
          have h4 := g3 t h3
          rw [h4.1, h4.2.1, h4.2.2, pk_un h3]
          exact e2 t (by omega) h2
    · have h8 : d = A 6 := by omega
      subst h8
      refine ⟨P1, P2, P3, ?_, fun t h => e2 t (by omega) h⟩
      have h5 : nI (A 6 - A 6) - nI 1 < nI 0 := by rw [Nat.sub_self]; decide
      unfold S_X0_solve_8
      simp only [fa_lit]
      rw [if_pos h5]
  obtain ⟨W', C', L', g1, g2⟩ := key
  refine ⟨W', C', L', ?_, g2⟩
  unfold F_X0_solve
  simp only [fa_lit]
  rw [ob3_s g1]
  by_cases h0 : 0 < A 6
  · have h1 := g2 0 h0
    cases hT : dTb (A 6) (okc A w b) (fun e => (c e : Int) - p) (A 6) 0 with
    | none =>
      rw [hT] at h1
      have h2 : L' 0 = -nI 1 := h1
      rw [bI_0 (fun h => by have := h.2; exact absurd this (by decide))]
      simp (disch := omega) only [fa_lit, fa_litL, nI_add, pk_mul, pk_sub, nI_clamp, gi_n, gb_0, gb_1, nI_ltI, nI_leI, nI_eq, lc_lt, lc_gt, lc_ge, lc_le, lc_eq, lN_i, nI_l, lN_add, lN_mul, lN_lt, lN_le, lN_eq, mI_eqR, mI_eqL, mI_ltL, mI_ltR, mI_leL, mI_leR, mI_add, ob1_some, ob2_some, ob3_some, ob4_some, ob5_some, ob6_some, ob7_some, ob8_some, if_true, if_false, if_pos, if_neg, Sum.elim_inl, Sum.elim_inr, un1, un2, un3, un4, un5, Nat.zero_add, Nat.add_zero, Nat.mul_one, Nat.mul_zero, Nat.sub_zero, pk_us, pk_uLs, xoq_l, xoq_r, nI_sle, h2]
    | some x =>
      rw [hT] at h1
      have h2 : L' 0 = nI x.2.2 := h1.2.2
      have hb := dTb_b (n := A 6) (ok := okc A w b) (g := fun e => (c e : Int) - p) (fun e => by have := hc e; omega) (A 6) (Nat.le_refl _) 0 h0 x hT
      rw [bI_1 ⟨h0, rfl⟩]
      simp (disch := omega) only [fa_lit, fa_litL, nI_add, pk_mul, pk_sub, nI_clamp, gi_n, gb_0, gb_1, nI_ltI, nI_leI, nI_eq, lc_lt, lc_gt, lc_ge, lc_le, lc_eq, lN_i, nI_l, lN_add, lN_mul, lN_lt, lN_le, lN_eq, mI_eqR, mI_eqL, mI_ltL, mI_ltR, mI_leL, mI_leR, mI_add, ob1_some, ob2_some, ob3_some, ob4_some, ob5_some, ob6_some, ob7_some, ob8_some, if_true, if_false, if_pos, if_neg, Sum.elim_inl, Sum.elim_inr, un1, un2, un3, un4, un5, Nat.zero_add, Nat.add_zero, Nat.mul_one, Nat.mul_zero, Nat.sub_zero, pk_us, pk_uLs, xoq_l, xoq_r, nI_sle, h2]
  · rw [bI_0 (fun h => h0 h.1)]
    simp (disch := omega) only [fa_lit, fa_litL, nI_add, pk_mul, pk_sub, nI_clamp, gi_n, gb_0, gb_1, nI_ltI, nI_leI, nI_eq, lc_lt, lc_gt, lc_ge, lc_le, lc_eq, lN_i, nI_l, lN_add, lN_mul, lN_lt, lN_le, lN_eq, mI_eqR, mI_eqL, mI_ltL, mI_ltR, mI_leL, mI_leR, mI_add, ob1_some, ob2_some, ob3_some, ob4_some, ob5_some, ob6_some, ob7_some, ob8_some, if_true, if_false, if_pos, if_neg, Sum.elim_inl, Sum.elim_inr, un1, un2, un3, un4, un5, Nat.zero_add, Nat.add_zero, Nat.mul_one, Nat.mul_zero, Nat.sub_zero, pk_us, pk_uLs, xoq_l, xoq_r, nI_sle]
end
