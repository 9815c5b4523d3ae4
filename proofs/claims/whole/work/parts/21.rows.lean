/-! ===== the show as a row of numbers: A; the reference's a, the class's cells ===== -/
def oA (A : Nat → Nat) (s w : Nat) : Nat := A (10 + 12 * s + w)
def MR (A : Nat → Nat) (a : Nat → Int64) : Prop := ∀ k, k < 499 → a k = lN (A k)
theorem MR.at {A : Nat → Nat} {a : Nat → Int64} (h : MR A a) {k : Nat} (hk : k < 499) : a k = lN (A k) := h k hk
/-- a name: up to eight letters of five bits each, none of them 0 or above 26 -/
def nmOK : Nat → Nat → Prop
  | 0, _ => False
  | d + 1, x => (1 ≤ x % 32 ∧ x % 32 ≤ 26) ∧ (x / 32 = 0 ∨ nmOK d (x / 32))
/-- a row of a show -/
def VA (A : Nat → Nat) : Prop :=
  ((1 ≤ A 0 ∧ A 0 ≤ 9999) ∧ (1 ≤ A 1 ∧ A 1 ≤ 9999) ∧ (1 ≤ A 2 ∧ A 2 ≤ 5) ∧ A 3 ≤ 100 ∧ A 4 ≤ 99 ∧ A 5 ≤ 9999 ∧ A 6 ≤ 32 ∧ A 7 ≤ 24 ∧ A 8 ≤ 5) ∧
  ((∀ s, s < A 6 → 1 ≤ oA A s 0 ∧ oA A s 0 ≤ 999 ∧ oA A s 1 ≤ 99 ∧ 1 ≤ oA A s 2 ∧ oA A s 2 ≤ 8 ∧ oA A s 11 < 32) ∧ (∀ s, s < A 6 → ∀ k, k < oA A s 2 → oA A s (3 + k) < A 7) ∧ ∀ s t, s < A 6 → t < A 6 → oA A s 11 = oA A t 11 → s = t) ∧
  ((∀ i, i < A 8 → A (394 + 3 * i) ≤ 9999 ∧ 1 ≤ A (394 + 3 * i + 1) ∧ A (394 + 3 * i + 1) ≤ 300 ∧ A (394 + 3 * i + 2) ≤ 999) ∧ ∀ i j, i ≤ j → j < A 8 → A (394 + 3 * i) ≤ A (394 + 3 * j)) ∧
  (A 409 ≤ 1 ∧ A 410 ≤ 32 ∧ ∀ s, s < A 410 → A (411 + 2 * s) < 32 ∧ 1 ≤ A (411 + 2 * s + 1) ∧ A (411 + 2 * s + 1) ≤ 999) ∧
  ∀ w, w < A 7 → nmOK 8 (A (475 + w))
/-- the class's transcript of the same show -/
def TR (A : Nat → Nat) (sc wc : Int32) (ord dur pau siz wor : Nat → Int32) (nam : Nat → Int64) : Prop :=
  sc = nI (A 6) ∧ wc = nI (A 7) ∧ (∀ s, s < A 6 → ord s = nI (oA A s 11) ∧ dur (oA A s 11) = nI (oA A s 0) ∧ pau (oA A s 11) = nI (oA A s 1) ∧ siz (oA A s 11) = nI (oA A s 2) ∧ ∀ k, k < oA A s 2 → wor (oA A s 11 * 8 + k) = nI (oA A s (3 + k))) ∧ ∀ w, w < A 7 → nam w = lN (A (475 + w))
/-- times, numbers of words, long pauses, uses -/
def sp (A : Nat → Nat) : Nat → Nat
  | 0 => 0
  | s + 1 => sp A s + oA A s 0
theorem sp_s (A : Nat → Nat) (s : Nat) : sp A (s + 1) = sp A s + oA A s 0 := rfl
def aw (A : Nat → Nat) : Nat → Nat
  | 0 => 0
  | s + 1 => aw A s + oA A s 2
theorem aw_s (A : Nat → Nat) (s : Nat) : aw A (s + 1) = aw A s + oA A s 2 := rfl
def lp (A : Nat → Nat) : Nat → Nat
  | 0 => 0
  | s + 1 => if A 4 ≤ oA A s 1 then lp A s + 1 else lp A s
def uk (A : Nat → Nat) (w s : Nat) : Nat → Nat
  | 0 => 0
  | k + 1 => if oA A s (3 + k) = w then uk A w s k + 1 else uk A w s k
theorem uk_s (A : Nat → Nat) (w s k : Nat) : uk A w s (k + 1) = if oA A s (3 + k) = w then uk A w s k + 1 else uk A w s k := rfl
/-- how often w stands in d segments from f on -/
def us (A : Nat → Nat) (w f : Nat) : Nat → Nat
  | 0 => 0
  | d + 1 => us A w f d + uk A w (f + d) (oA A (f + d) 2)
theorem us_s (A : Nat → Nat) (w f d : Nat) : us A w f (d + 1) = us A w f d + uk A w (f + d) (oA A (f + d) 2) := rfl
theorem uk_le (A : Nat → Nat) (w s : Nat) : ∀ k, uk A w s k ≤ k := by
  intro k
  induction k with
  | zero => exact Nat.le_refl 0
  | succ k ih => unfold uk; split <;> omega
theorem sp_mono (A : Nat → Nat) {s t : Nat} (h : s ≤ t) : sp A s ≤ sp A t := by
  induction t with
  | zero => have h1 : s = 0 := by omega
            subst h1; exact Nat.le_refl _
  | succ t ih =>
    by_cases h1 : s ≤ t
    · have := ih h1; rw [sp_s]; omega
    · have h2 : s = t + 1 := by omega
      subst h2; exact Nat.le_refl _
section
variable {A : Nat → Nat}
theorem VA.n (h : VA A) : A 6 ≤ 32 := h.1.2.2.2.2.2.2.1
theorem VA.nw (h : VA A) : A 7 ≤ 24 := h.1.2.2.2.2.2.2.2.1
theorem VA.nl (h : VA A) : A 8 ≤ 5 := h.1.2.2.2.2.2.2.2.2
theorem VA.s0 (h : VA A) : 1 ≤ A 0 ∧ A 0 ≤ 9999 := h.1.1
theorem VA.s1 (h : VA A) : 1 ≤ A 1 ∧ A 1 ≤ 9999 := h.1.2.1
theorem VA.s2 (h : VA A) : 1 ≤ A 2 ∧ A 2 ≤ 5 := h.1.2.2.1
theorem VA.s3 (h : VA A) : A 3 ≤ 100 := h.1.2.2.2.1
theorem VA.s4 (h : VA A) : A 4 ≤ 99 := h.1.2.2.2.2.1
theorem VA.s5 (h : VA A) : A 5 ≤ 9999 := h.1.2.2.2.2.2.1
theorem VA.seg (h : VA A) {s : Nat} (hs : s < A 6) : 1 ≤ oA A s 0 ∧ oA A s 0 ≤ 999 ∧ oA A s 1 ≤ 99 ∧ 1 ≤ oA A s 2 ∧ oA A s 2 ≤ 8 ∧ oA A s 11 < 32 := h.2.1.1 s hs
theorem VA.wd (h : VA A) {s k : Nat} (hs : s < A 6) (hk : k < oA A s 2) : oA A s (3 + k) < A 7 := h.2.1.2.1 s hs k hk
theorem VA.inj (h : VA A) {s t : Nat} (hs : s < A 6) (ht : t < A 6) (e : oA A s 11 = oA A t 11) : s = t := h.2.1.2.2 s t hs ht e
theorem VA.slot (h : VA A) {i : Nat} (hi : i < A 8) : A (394 + 3 * i) ≤ 9999 ∧ 1 ≤ A (394 + 3 * i + 1) ∧ A (394 + 3 * i + 1) ≤ 300 ∧ A (394 + 3 * i + 2) ≤ 999 := h.2.2.1.1 i hi
theorem VA.srt (h : VA A) {i j : Nat} (hij : i ≤ j) (hj : j < A 8) : A (394 + 3 * i) ≤ A (394 + 3 * j) := h.2.2.1.2 i j hij hj
theorem VA.kept (h : VA A) : A 409 ≤ 1 ∧ A 410 ≤ 32 ∧ ∀ s, s < A 410 → A (411 + 2 * s) < 32 ∧ 1 ≤ A (411 + 2 * s + 1) ∧ A (411 + 2 * s + 1) ≤ 999 := h.2.2.2.1
theorem VA.nm (h : VA A) {w : Nat} (hw : w < A 7) : nmOK 8 (A (475 + w)) := h.2.2.2.2 w hw
theorem sp_le (h : VA A) : ∀ s, s ≤ A 6 → sp A s ≤ 999 * s := by
  intro s
  induction s with
  | zero => intro _; exact Nat.le_refl 0
  | succ s ih =>
    intro hs
    have h1 := ih (by omega)
    have h2 := h.seg (s := s) (by omega)
    rw [sp_s]; omega
theorem sp_b (h : VA A) {s : Nat} (hs : s ≤ A 6) : sp A s ≤ 31968 := by
  have h1 := sp_le h s hs
  have h2 := h.n
  omega
theorem us_le (h : VA A) {w f : Nat} : ∀ d, f + d ≤ A 6 → us A w f d ≤ 8 * d := by
  intro d
  induction d with
  | zero => intro _; exact Nat.le_refl 0
  | succ d ih =>
    intro hd
    have h1 := ih (by omega)
    have h2 := h.seg (s := f + d) (by omega)
    have h3 := uk_le A w (f + d) (oA A (f + d) 2)
    rw [us_s]; omega
variable {sc wc : Int32} {ord dur pau siz wor : Nat → Int32} {nam : Nat → Int64} {a : Nat → Int64}
theorem p_durationOf (hV : VA A) (h : TR A sc wc ord dur pau siz wor nam) {s : Nat} (hs : s < A 6) : F_X9_durationOf (nI s) ord dur = some (nI (oA A s 0)) := by
  have hn := hV.n
  have h1 := h.2.2.1 s hs
  have h2 := hV.seg hs
  simp (disch := omega) only [fa_lit, fa_litL, nI_add, pk_mul, pk_sub, nI_clamp, gi_n, gb_0, gb_1, nI_ltI, nI_leI, nI_eq, lc_lt, lc_gt, lc_ge, lc_le, lc_eq, lN_i, nI_l, lN_add, lN_mul, lN_lt, lN_le, lN_eq, mI_eqR, mI_eqL, mI_ltL, mI_ltR, mI_leL, mI_leR, mI_add, ob1_some, ob2_some, ob3_some, ob4_some, ob5_some, ob6_some, ob7_some, ob8_some, if_true, if_false, if_pos, if_neg, Sum.elim_inl, Sum.elim_inr, un1, un2, un3, un4, un5, Nat.zero_add, Nat.add_zero, Nat.mul_one, Nat.mul_zero, Nat.sub_zero, pk_us, pk_uLs, xoq_l, xoq_r, nI_sle, F_X9_durationOf, h1.1, h1.2.1]
theorem p_pauseOf (hV : VA A) (h : TR A sc wc ord dur pau siz wor nam) {s : Nat} (hs : s < A 6) : F_X9_pauseOf (nI s) ord pau = some (nI (oA A s 1)) := by
  have hn := hV.n
  have h1 := h.2.2.1 s hs
  have h2 := hV.seg hs
  simp (disch := omega) only [fa_lit, fa_litL, nI_add, pk_mul, pk_sub, nI_clamp, gi_n, gb_0, gb_1, nI_ltI, nI_leI, nI_eq, lc_lt, lc_gt, lc_ge, lc_le, lc_eq, lN_i, nI_l, lN_add, lN_mul, lN_lt, lN_le, lN_eq, mI_eqR, mI_eqL, mI_ltL, mI_ltR, mI_leL, mI_leR, mI_add, ob1_some, ob2_some, ob3_some, ob4_some, ob5_some, ob6_some, ob7_some, ob8_some, if_true, if_false, if_pos, if_neg, Sum.elim_inl, Sum.elim_inr, un1, un2, un3, un4, un5, Nat.zero_add, Nat.add_zero, Nat.mul_one, Nat.mul_zero, Nat.sub_zero, pk_us, pk_uLs, xoq_l, xoq_r, nI_sle, F_X9_pauseOf, h1.1, h1.2.2.1]
theorem p_sizeOf (hV : VA A) (h : TR A sc wc ord dur pau siz wor nam) {s : Nat} (hs : s < A 6) : F_X9_sizeOf (nI s) ord siz = some (nI (oA A s 2)) := by
  have hn := hV.n
  have h1 := h.2.2.1 s hs
  have h2 := hV.seg hs
  simp (disch := omega) only [fa_lit, fa_litL, nI_add, pk_mul, pk_sub, nI_clamp, gi_n, gb_0, gb_1, nI_ltI, nI_leI, nI_eq, lc_lt, lc_gt, lc_ge, lc_le, lc_eq, lN_i, nI_l, lN_add, lN_mul, lN_lt, lN_le, lN_eq, mI_eqR, mI_eqL, mI_ltL, mI_ltR, mI_leL, mI_leR, mI_add, ob1_some, ob2_some, ob3_some, ob4_some, ob5_some, ob6_some, ob7_some, ob8_some, if_true, if_false, if_pos, if_neg, Sum.elim_inl, Sum.elim_inr, un1, un2, un3, un4, un5, Nat.zero_add, Nat.add_zero, Nat.mul_one, Nat.mul_zero, Nat.sub_zero, pk_us, pk_uLs, xoq_l, xoq_r, nI_sle, F_X9_sizeOf, h1.1, h1.2.2.2.1]
theorem p_wordAt (hV : VA A) (h : TR A sc wc ord dur pau siz wor nam) {s k : Nat} (hs : s < A 6) (hk : k < oA A s 2) : F_X9_wordAt (nI s) (nI k) ord wor = some (nI (oA A s (3 + k))) := by
  have hn := hV.n
  have h1 := h.2.2.1 s hs
  have h2 := hV.seg hs
  have h3 := h1.2.2.2.2 k hk
  simp (disch := omega) only [fa_lit, fa_litL, nI_add, pk_mul, pk_sub, nI_clamp, gi_n, gb_0, gb_1, nI_ltI, nI_leI, nI_eq, lc_lt, lc_gt, lc_ge, lc_le, lc_eq, lN_i, nI_l, lN_add, lN_mul, lN_lt, lN_le, lN_eq, mI_eqR, mI_eqL, mI_ltL, mI_ltR, mI_leL, mI_leR, mI_add, ob1_some, ob2_some, ob3_some, ob4_some, ob5_some, ob6_some, ob7_some, ob8_some, if_true, if_false, if_pos, if_neg, Sum.elim_inl, Sum.elim_inr, un1, un2, un3, un4, un5, Nat.zero_add, Nat.add_zero, Nat.mul_one, Nat.mul_zero, Nat.sub_zero, pk_us, pk_uLs, xoq_l, xoq_r, nI_sle, F_X9_wordAt, h1.1, h3]
theorem p_startOf (hV : VA A) (h : TR A sc wc ord dur pau siz wor nam) {s : Nat} (hs : s ≤ A 6) : F_X9_startOf (nI s) ord dur = some (nI (sp A s)) := by
  have hn := hV.n
  unfold F_X9_startOf
  refine ob1_t (whf (fun j => (nI (sp A j), nI j)) 0 s rfl (by omega) (by omega) (fun j _ hj k => ?_) (fun k => ?_)) rfl
  · simp (disch := omega) only [fa_lit, fa_litL, nI_add, pk_mul, pk_sub, nI_clamp, gi_n, gb_0, gb_1, nI_ltI, nI_leI, nI_eq, lc_lt, lc_gt, lc_ge, lc_le, lc_eq, lN_i, nI_l, lN_add, lN_mul, lN_lt, lN_le, lN_eq, mI_eqR, mI_eqL, mI_ltL, mI_ltR, mI_leL, mI_leR, mI_add, ob1_some, ob2_some, ob3_some, ob4_some, ob5_some, ob6_some, ob7_some, ob8_some, if_true, if_false, if_pos, if_neg, Sum.elim_inl, Sum.elim_inr, un1, un2, un3, un4, un5, Nat.zero_add, Nat.add_zero, Nat.mul_one, Nat.mul_zero, Nat.sub_zero, pk_us, pk_uLs, xoq_l, xoq_r, nI_sle, S_X9_startOf_4, p_durationOf hV h, sp_s]
  · simp (disch := omega) only [fa_lit, fa_litL, nI_add, pk_mul, pk_sub, nI_clamp, gi_n, gb_0, gb_1, nI_ltI, nI_leI, nI_eq, lc_lt, lc_gt, lc_ge, lc_le, lc_eq, lN_i, nI_l, lN_add, lN_mul, lN_lt, lN_le, lN_eq, mI_eqR, mI_eqL, mI_ltL, mI_ltR, mI_leL, mI_leR, mI_add, ob1_some, ob2_some, ob3_some, ob4_some, ob5_some, ob6_some, ob7_some, ob8_some, if_true, if_false, if_pos, if_neg, Sum.elim_inl, Sum.elim_inr, un1, un2, un3, un4, un5, Nat.zero_add, Nat.add_zero, Nat.mul_one, Nat.mul_zero, Nat.sub_zero, pk_us, pk_uLs, xoq_l, xoq_r, nI_sle, S_X9_startOf_4]
theorem p_boundaryCount {n : Nat} (h : n ≤ 32) : F_X9_boundaryCount (nI n) = some (nI (n - 1)) := by
  by_cases h0 : n = 0
  · subst h0; rfl
  · simp (disch := omega) only [fa_lit, fa_litL, nI_add, pk_mul, pk_sub, nI_clamp, gi_n, gb_0, gb_1, nI_ltI, nI_leI, nI_eq, lc_lt, lc_gt, lc_ge, lc_le, lc_eq, lN_i, nI_l, lN_add, lN_mul, lN_lt, lN_le, lN_eq, mI_eqR, mI_eqL, mI_ltL, mI_ltR, mI_leL, mI_leR, mI_add, ob1_some, ob2_some, ob3_some, ob4_some, ob5_some, ob6_some, ob7_some, ob8_some, if_true, if_false, if_pos, if_neg, Sum.elim_inl, Sum.elim_inr, un1, un2, un3, un4, un5, Nat.zero_add, Nat.add_zero, Nat.mul_one, Nat.mul_zero, Nat.sub_zero, pk_us, pk_uLs, xoq_l, xoq_r, nI_sle, F_X9_boundaryCount]
theorem p_allWords (hV : VA A) (h : TR A sc wc ord dur pau siz wor nam) : F_X9_allWords sc ord siz = some (nI (aw A (A 6))) := by
  have hn := hV.n
  unfold F_X9_allWords
  refine ob1_t (whf (fun j => (nI (aw A j), nI j)) 0 (A 6) rfl (by omega) (by omega) (fun j _ hj k => ?_) (fun k => ?_)) rfl
  · simp (disch := omega) only [fa_lit, fa_litL, nI_add, pk_mul, pk_sub, nI_clamp, gi_n, gb_0, gb_1, nI_ltI, nI_leI, nI_eq, lc_lt, lc_gt, lc_ge, lc_le, lc_eq, lN_i, nI_l, lN_add, lN_mul, lN_lt, lN_le, lN_eq, mI_eqR, mI_eqL, mI_ltL, mI_ltR, mI_leL, mI_leR, mI_add, ob1_some, ob2_some, ob3_some, ob4_some, ob5_some, ob6_some, ob7_some, ob8_some, if_true, if_false, if_pos, if_neg, Sum.elim_inl, Sum.elim_inr, un1, un2, un3, un4, un5, Nat.zero_add, Nat.add_zero, Nat.mul_one, Nat.mul_zero, Nat.sub_zero, pk_us, pk_uLs, xoq_l, xoq_r, nI_sle, S_X9_allWords_4, h.1, p_sizeOf hV h, aw_s]
  · simp (disch := omega) only [fa_lit, fa_litL, nI_add, pk_mul, pk_sub, nI_clamp, gi_n, gb_0, gb_1, nI_ltI, nI_leI, nI_eq, lc_lt, lc_gt, lc_ge, lc_le, lc_eq, lN_i, nI_l, lN_add, lN_mul, lN_lt, lN_le, lN_eq, mI_eqR, mI_eqL, mI_ltL, mI_ltR, mI_leL, mI_leR, mI_add, ob1_some, ob2_some, ob3_some, ob4_some, ob5_some, ob6_some, ob7_some, ob8_some, if_true, if_false, if_pos, if_neg, Sum.elim_inl, Sum.elim_inr, un1, un2, un3, un4, un5, Nat.zero_add, Nat.add_zero, Nat.mul_one, Nat.mul_zero, Nat.sub_zero, pk_us, pk_uLs, xoq_l, xoq_r, nI_sle, S_X9_allWords_4, h.1]
theorem p_longPauses (hV : VA A) (h : TR A sc wc ord dur pau siz wor nam) : F_X9_longPauses (nI (A 4)) sc ord pau = some (nI (lp A (A 6 - 1))) := by
  have hn := hV.n
  have h4 := hV.s4
  unfold F_X9_longPauses
  refine ob1_t (whf (fun j => (nI (lp A j), nI j)) 0 (A 6 - 1) rfl (by omega) (by omega) (fun j _ hj k => ?_) (fun k => ?_)) rfl
  · have h5 := hV.seg (s := j) (by omega)
    by_cases h6 : A 4 ≤ oA A j 1
    · simp (disch := omega) only [fa_lit, fa_litL, nI_add, pk_mul, pk_sub, nI_clamp, gi_n, gb_0, gb_1, nI_ltI, nI_leI, nI_eq, lc_lt, lc_gt, lc_ge, lc_le, lc_eq, lN_i, nI_l, lN_add, lN_mul, lN_lt, lN_le, lN_eq, mI_eqR, mI_eqL, mI_ltL, mI_ltR, mI_leL, mI_leR, mI_add, ob1_some, ob2_some, ob3_some, ob4_some, ob5_some, ob6_some, ob7_some, ob8_some, if_true, if_false, if_pos, if_neg, Sum.elim_inl, Sum.elim_inr, un1, un2, un3, un4, un5, Nat.zero_add, Nat.add_zero, Nat.mul_one, Nat.mul_zero, Nat.sub_zero, pk_us, pk_uLs, xoq_l, xoq_r, nI_sle, S_X9_longPauses_4, h.1, p_boundaryCount hn, p_pauseOf hV h, lp]
    · simp (disch := omega) only [fa_lit, fa_litL, nI_add, pk_mul, pk_sub, nI_clamp, gi_n, gb_0, gb_1, nI_ltI, nI_leI, nI_eq, lc_lt, lc_gt, lc_ge, lc_le, lc_eq, lN_i, nI_l, lN_add, lN_mul, lN_lt, lN_le, lN_eq, mI_eqR, mI_eqL, mI_ltL, mI_ltR, mI_leL, mI_leR, mI_add, ob1_some, ob2_some, ob3_some, ob4_some, ob5_some, ob6_some, ob7_some, ob8_some, if_true, if_false, if_pos, if_neg, Sum.elim_inl, Sum.elim_inr, un1, un2, un3, un4, un5, Nat.zero_add, Nat.add_zero, Nat.mul_one, Nat.mul_zero, Nat.sub_zero, pk_us, pk_uLs, xoq_l, xoq_r, nI_sle, S_X9_longPauses_4, h.1, p_boundaryCount hn, p_pauseOf hV h, lp]
  · simp (disch := omega) only [fa_lit, fa_litL, nI_add, pk_mul, pk_sub, nI_clamp, gi_n, gb_0, gb_1, nI_ltI, nI_leI, nI_eq, lc_lt, lc_gt, lc_ge, lc_le, lc_eq, lN_i, nI_l, lN_add, lN_mul, lN_lt, lN_le, lN_eq, mI_eqR, mI_eqL, mI_ltL, mI_ltR, mI_leL, mI_leR, mI_add, ob1_some, ob2_some, ob3_some, ob4_some, ob5_some, ob6_some, ob7_some, ob8_some, if_true, if_false, if_pos, if_neg, Sum.elim_inl, Sum.elim_inr, un1, un2, un3, un4, un5, Nat.zero_add, Nat.add_zero, Nat.mul_one, Nat.mul_zero, Nat.sub_zero, pk_us, pk_uLs, xoq_l, xoq_r, nI_sle, S_X9_longPauses_4, h.1, p_boundaryCount hn]
theorem q_many (hM : MR A a) : F_X11_many a = some (nI (A 6)) := by
  simp (disch := omega) only [fa_lit, fa_litL, nI_add, pk_mul, pk_sub, nI_clamp, gi_n, gb_0, gb_1, nI_ltI, nI_leI, nI_eq, lc_lt, lc_gt, lc_ge, lc_le, lc_eq, lN_i, nI_l, lN_add, lN_mul, lN_lt, lN_le, lN_eq, mI_eqR, mI_eqL, mI_ltL, mI_ltR, mI_leL, mI_leR, mI_add, ob1_some, ob2_some, ob3_some, ob4_some, ob5_some, ob6_some, ob7_some, ob8_some, if_true, if_false, if_pos, if_neg, Sum.elim_inl, Sum.elim_inr, un1, un2, un3, un4, un5, Nat.zero_add, Nat.add_zero, Nat.mul_one, Nat.mul_zero, Nat.sub_zero, pk_us, pk_uLs, xoq_l, xoq_r, nI_sle, F_X11_many, hM.at]
theorem q_of (hM : MR A a) {s w : Nat} (h : 10 + 12 * s + w < 499) : F_X11_of (nI s) (nI w) a = some (nI (oA A s w)) := by
  simp (disch := omega) only [fa_lit, fa_litL, nI_add, pk_mul, pk_sub, nI_clamp, gi_n, gb_0, gb_1, nI_ltI, nI_leI, nI_eq, lc_lt, lc_gt, lc_ge, lc_le, lc_eq, lN_i, nI_l, lN_add, lN_mul, lN_lt, lN_le, lN_eq, mI_eqR, mI_eqL, mI_ltL, mI_ltR, mI_leL, mI_leR, mI_add, ob1_some, ob2_some, ob3_some, ob4_some, ob5_some, ob6_some, ob7_some, ob8_some, if_true, if_false, if_pos, if_neg, Sum.elim_inl, Sum.elim_inr, un1, un2, un3, un4, un5, Nat.zero_add, Nat.add_zero, Nat.mul_one, Nat.mul_zero, Nat.sub_zero, pk_us, pk_uLs, xoq_l, xoq_r, nI_sle, F_X11_of, hM.at, oA]
theorem q_spoken (hV : VA A) (hM : MR A a) {s : Nat} (hs : s ≤ A 6) : F_X11_spoken (nI s) a = some (nI (sp A s)) := by
  have hn := hV.n
  unfold F_X11_spoken
  refine ob1_t (whf (fun j => (nI (sp A j), nI j)) 0 s rfl (by omega) (by omega) (fun j _ hj k => ?_) (fun k => ?_)) rfl
  · simp (disch := omega) only [fa_lit, fa_litL, nI_add, pk_mul, pk_sub, nI_clamp, gi_n, gb_0, gb_1, nI_ltI, nI_leI, nI_eq, lc_lt, lc_gt, lc_ge, lc_le, lc_eq, lN_i, nI_l, lN_add, lN_mul, lN_lt, lN_le, lN_eq, mI_eqR, mI_eqL, mI_ltL, mI_ltR, mI_leL, mI_leR, mI_add, ob1_some, ob2_some, ob3_some, ob4_some, ob5_some, ob6_some, ob7_some, ob8_some, if_true, if_false, if_pos, if_neg, Sum.elim_inl, Sum.elim_inr, un1, un2, un3, un4, un5, Nat.zero_add, Nat.add_zero, Nat.mul_one, Nat.mul_zero, Nat.sub_zero, pk_us, pk_uLs, xoq_l, xoq_r, nI_sle, S_X11_spoken_4, q_of hM, sp_s]
  · simp (disch := omega) only [fa_lit, fa_litL, nI_add, pk_mul, pk_sub, nI_clamp, gi_n, gb_0, gb_1, nI_ltI, nI_leI, nI_eq, lc_lt, lc_gt, lc_ge, lc_le, lc_eq, lN_i, nI_l, lN_add, lN_mul, lN_lt, lN_le, lN_eq, mI_eqR, mI_eqL, mI_ltL, mI_ltR, mI_leL, mI_leR, mI_add, ob1_some, ob2_some, ob3_some, ob4_some, ob5_some, ob6_some, ob7_some, ob8_some, if_true, if_false, if_pos, if_neg, Sum.elim_inl, Sum.elim_inr, un1, un2, un3, un4, un5, Nat.zero_add, Nat.add_zero, Nat.mul_one, Nat.mul_zero, Nat.sub_zero, pk_us, pk_uLs, xoq_l, xoq_r, nI_sle, S_X11_spoken_4]
theorem q_wordsOfAll (hV : VA A) (hM : MR A a) : F_X11_wordsOfAll a = some (nI (aw A (A 6))) := by
  have hn := hV.n
  unfold F_X11_wordsOfAll
  refine ob1_t (whf (fun j => (nI (aw A j), nI j)) 0 (A 6) rfl (by omega) (by omega) (fun j _ hj k => ?_) (fun k => ?_)) rfl
  · simp (disch := omega) only [fa_lit, fa_litL, nI_add, pk_mul, pk_sub, nI_clamp, gi_n, gb_0, gb_1, nI_ltI, nI_leI, nI_eq, lc_lt, lc_gt, lc_ge, lc_le, lc_eq, lN_i, nI_l, lN_add, lN_mul, lN_lt, lN_le, lN_eq, mI_eqR, mI_eqL, mI_ltL, mI_ltR, mI_leL, mI_leR, mI_add, ob1_some, ob2_some, ob3_some, ob4_some, ob5_some, ob6_some, ob7_some, ob8_some, if_true, if_false, if_pos, if_neg, Sum.elim_inl, Sum.elim_inr, un1, un2, un3, un4, un5, Nat.zero_add, Nat.add_zero, Nat.mul_one, Nat.mul_zero, Nat.sub_zero, pk_us, pk_uLs, xoq_l, xoq_r, nI_sle, S_X11_wordsOfAll_4, q_many hM, q_of hM, aw_s]
  · simp (disch := omega) only [fa_lit, fa_litL, nI_add, pk_mul, pk_sub, nI_clamp, gi_n, gb_0, gb_1, nI_ltI, nI_leI, nI_eq, lc_lt, lc_gt, lc_ge, lc_le, lc_eq, lN_i, nI_l, lN_add, lN_mul, lN_lt, lN_le, lN_eq, mI_eqR, mI_eqL, mI_ltL, mI_ltR, mI_leL, mI_leR, mI_add, ob1_some, ob2_some, ob3_some, ob4_some, ob5_some, ob6_some, ob7_some, ob8_some, if_true, if_false, if_pos, if_neg, Sum.elim_inl, Sum.elim_inr, un1, un2, un3, un4, un5, Nat.zero_add, Nat.add_zero, Nat.mul_one, Nat.mul_zero, Nat.sub_zero, pk_us, pk_uLs, xoq_l, xoq_r, nI_sle, S_X11_wordsOfAll_4, q_many hM]
theorem q_isLong (hV : VA A) (hM : MR A a) {s : Nat} (hs : s < A 6) : F_X11_isLong (nI s) a = some (bI (A 4 ≤ oA A s 1)) := by
  have hn := hV.n
  have h4 := hV.s4
  have h5 := hV.seg hs
  by_cases h6 : A 4 ≤ oA A s 1
  · simp (disch := omega) only [fa_lit, fa_litL, nI_add, pk_mul, pk_sub, nI_clamp, gi_n, gb_0, gb_1, nI_ltI, nI_leI, nI_eq, lc_lt, lc_gt, lc_ge, lc_le, lc_eq, lN_i, nI_l, lN_add, lN_mul, lN_lt, lN_le, lN_eq, mI_eqR, mI_eqL, mI_ltL, mI_ltR, mI_leL, mI_leR, mI_add, ob1_some, ob2_some, ob3_some, ob4_some, ob5_some, ob6_some, ob7_some, ob8_some, if_true, if_false, if_pos, if_neg, Sum.elim_inl, Sum.elim_inr, un1, un2, un3, un4, un5, Nat.zero_add, Nat.add_zero, Nat.mul_one, Nat.mul_zero, Nat.sub_zero, pk_us, pk_uLs, xoq_l, xoq_r, nI_sle, F_X11_isLong, q_of hM, hM.at, bI_1]
  · simp (disch := omega) only [fa_lit, fa_litL, nI_add, pk_mul, pk_sub, nI_clamp, gi_n, gb_0, gb_1, nI_ltI, nI_leI, nI_eq, lc_lt, lc_gt, lc_ge, lc_le, lc_eq, lN_i, nI_l, lN_add, lN_mul, lN_lt, lN_le, lN_eq, mI_eqR, mI_eqL, mI_ltL, mI_ltR, mI_leL, mI_leR, mI_add, ob1_some, ob2_some, ob3_some, ob4_some, ob5_some, ob6_some, ob7_some, ob8_some, if_true, if_false, if_pos, if_neg, Sum.elim_inl, Sum.elim_inr, un1, un2, un3, un4, un5, Nat.zero_add, Nat.add_zero, Nat.mul_one, Nat.mul_zero, Nat.sub_zero, pk_us, pk_uLs, xoq_l, xoq_r, nI_sle, F_X11_isLong, q_of hM, hM.at, bI_0]
theorem q_longPauses (hV : VA A) (hM : MR A a) : F_X11_longPauses a = some (nI (lp A (A 6 - 1))) := by
  have hn := hV.n
  unfold F_X11_longPauses
  refine ob1_t (whf (fun j => (nI (lp A j), nI j)) 0 (A 6 - 1) rfl (by omega) (by omega) (fun j _ hj k => ?_) (fun k => ?_)) rfl
  · by_cases h6 : A 4 ≤ oA A j 1
    · simp (disch := omega) only [fa_lit, fa_litL, nI_add, pk_mul, pk_sub, nI_clamp, gi_n, gb_0, gb_1, nI_ltI, nI_leI, nI_eq, lc_lt, lc_gt, lc_ge, lc_le, lc_eq, lN_i, nI_l, lN_add, lN_mul, lN_lt, lN_le, lN_eq, mI_eqR, mI_eqL, mI_ltL, mI_ltR, mI_leL, mI_leR, mI_add, ob1_some, ob2_some, ob3_some, ob4_some, ob5_some, ob6_some, ob7_some, ob8_some, if_true, if_false, if_pos, if_neg, Sum.elim_inl, Sum.elim_inr, un1, un2, un3, un4, un5, Nat.zero_add, Nat.add_zero, Nat.mul_one, Nat.mul_zero, Nat.sub_zero, pk_us, pk_uLs, xoq_l, xoq_r, nI_sle, S_X11_longPauses_4, q_many hM, q_isLong hV hM, bI_1, lp, nI_sle]
    · simp (disch := omega) only [fa_lit, fa_litL, nI_add, pk_mul, pk_sub, nI_clamp, gi_n, gb_0, gb_1, nI_ltI, nI_leI, nI_eq, lc_lt, lc_gt, lc_ge, lc_le, lc_eq, lN_i, nI_l, lN_add, lN_mul, lN_lt, lN_le, lN_eq, mI_eqR, mI_eqL, mI_ltL, mI_ltR, mI_leL, mI_leR, mI_add, ob1_some, ob2_some, ob3_some, ob4_some, ob5_some, ob6_some, ob7_some, ob8_some, if_true, if_false, if_pos, if_neg, Sum.elim_inl, Sum.elim_inr, un1, un2, un3, un4, un5, Nat.zero_add, Nat.add_zero, Nat.mul_one, Nat.mul_zero, Nat.sub_zero, pk_us, pk_uLs, xoq_l, xoq_r, nI_sle, S_X11_longPauses_4, q_many hM, q_isLong hV hM, bI_0, lp, nI_sle]
  · simp (disch := omega) only [fa_lit, fa_litL, nI_add, pk_mul, pk_sub, nI_clamp, gi_n, gb_0, gb_1, nI_ltI, nI_leI, nI_eq, lc_lt, lc_gt, lc_ge, lc_le, lc_eq, lN_i, nI_l, lN_add, lN_mul, lN_lt, lN_le, lN_eq, mI_eqR, mI_eqL, mI_ltL, mI_ltR, mI_leL, mI_leR, mI_add, ob1_some, ob2_some, ob3_some, ob4_some, ob5_some, ob6_some, ob7_some, ob8_some, if_true, if_false, if_pos, if_neg, Sum.elim_inl, Sum.elim_inr, un1, un2, un3, un4, un5, Nat.zero_add, Nat.add_zero, Nat.mul_one, Nat.mul_zero, Nat.sub_zero, pk_us, pk_uLs, xoq_l, xoq_r, nI_sle, S_X11_longPauses_4, q_many hM, nI_sle]
end
