/-! ===== words: uses, tallies, likeness, change ===== -/
def smn (c e : Nat → Nat) : Nat → Nat
  | 0 => 0
  | w + 1 => smn c e w + (if e w < c w then e w else c w)
def smx (c e : Nat → Nat) : Nat → Nat
  | 0 => 0
  | w + 1 => smx c e w + (if c w < e w then e w else c w)
theorem smn_s (c e : Nat → Nat) (w : Nat) : smn c e (w + 1) = smn c e w + (if e w < c w then e w else c w) := rfl
theorem smx_s (c e : Nat → Nat) (w : Nat) : smx c e (w + 1) = smx c e w + (if c w < e w then e w else c w) := rfl
theorem smn_le (c e : Nat → Nat) : ∀ w, smn c e w ≤ smx c e w := by
  intro w
  induction w with
  | zero => exact Nat.le_refl 0
  | succ w ih => rw [smn_s, smx_s]; split <;> split <;> omega
theorem smx_le {c e : Nat → Nat} {B n : Nat} (h : ∀ w, w < n → c w ≤ B ∧ e w ≤ B) : ∀ w, w ≤ n → smx c e w ≤ B * w := by
  intro w
  induction w with
  | zero => intro _; exact Nat.zero_le _
  | succ w ih =>
    intro hw
    have h1 := ih (by omega)
    have h2 := h w (by omega)
    rw [smx_s, Nat.mul_succ]
    split <;> omega
theorem smx_cut {c e : Nat → Nat} {W : Nat} (h : ∀ w, W ≤ w → w < 24 → c w = 0 ∧ e w = 0) : ∀ d, W + d ≤ 24 → smx c e (W + d) = smx c e W ∧ smn c e (W + d) = smn c e W := by
  intro d
  induction d with
  | zero => intro _; exact ⟨rfl, rfl⟩
  | succ d ih =>
    intro hd
    have h1 := ih (by omega)
    have h2 := h (W + d) (by omega) (by omega)
    rw [show W + (d + 1) = (W + d) + 1 from rfl, smx_s, smn_s, h2.1, h2.2, h1.1, h1.2]
    exact ⟨rfl, rfl⟩
theorem smx_pos {c e : Nat → Nat} {w : Nat} : ∀ n, w < n → 0 < c w → 0 < smx c e n := by
  intro n
  induction n with
  | zero => intro h; exact absurd h (Nat.not_lt_zero _)
  | succ n ih =>
    intro h h2
    rw [smx_s]
    by_cases h3 : w = n
    · subst h3; split <;> omega
    · have := ih (by omega) h2; omega
/-- the likeness of two rows of counts -/
def lkv (c e : Nat → Nat) (n : Nat) : Nat := 100 * smn c e n / smx c e n
theorem lkv_le (c e : Nat → Nat) (n : Nat) : lkv c e n ≤ 100 := by
  unfold lkv
  have h := smn_le c e n
  by_cases h0 : smx c e n = 0
  · rw [h0, Nat.div_zero]; omega
  · exact Nat.div_le_of_le_mul (by rw [Nat.mul_comm]; exact Nat.mul_le_mul_right 100 h)
/-- the likeness of d segments from f on and of e from g on -/
def lk (A : Nat → Nat) (f d g e : Nat) : Nat := lkv (fun w => us A w f d) (fun w => us A w g e) (A 7)
def ch (A : Nat → Nat) (b : Nat) : Nat := 100 - lk A (b + 1 - A 2) (b + 1 - (b + 1 - A 2)) (b + 1) ((if b + A 2 < A 6 - 1 then b + A 2 else A 6 - 1) - b)
theorem ch_le (A : Nat → Nat) (b : Nat) : ch A b ≤ 100 := Nat.sub_le _ _
section
variable {A : Nat → Nat} {sc wc : Int32} {ord dur pau siz wor : Nat → Int32} {nam : Nat → Int64} {a : Nat → Int64}
theorem uk_0 (hV : VA A) {w s : Nat} (hs : s < A 6) (hw : A 7 ≤ w) : ∀ k, k ≤ oA A s 2 → uk A w s k = 0 := by
  intro k
  induction k with
  | zero => intro _; rfl
  | succ k ih =>
    intro hk
    have h1 := ih (by omega)
    have h2 := hV.wd hs (k := k) (by omega)
    unfold uk
    rw [if_neg (by omega), h1]
theorem us_0 (hV : VA A) {w f : Nat} (hw : A 7 ≤ w) : ∀ d, f + d ≤ A 6 → us A w f d = 0 := by
  intro d
  induction d with
  | zero => intro _; rfl
  | succ d ih =>
    intro hd
    rw [us_s, ih (by omega), uk_0 hV (by omega) hw _ (Nat.le_refl _)]
theorem uk_1 {w s : Nat} (hw : oA A s 3 = w) : ∀ k, 1 ≤ k → 1 ≤ uk A w s k := by
  intro k
  induction k with
  | zero => intro h; omega
  | succ k ih =>
    intro _
    unfold uk
    by_cases h0 : k = 0
    · subst h0; rw [if_pos hw]; omega
    · have := ih (by omega)
      split <;> omega
theorem us_1 (hV : VA A) {f : Nat} : ∀ d, 1 ≤ d → f + d ≤ A 6 → 1 ≤ us A (oA A f 3) f d := by
  intro d
  induction d with
  | zero => intro h; omega
  | succ d ih =>
    intro _ hd
    rw [us_s]
    by_cases h0 : d = 0
    · subst h0
      have h1 := hV.seg (s := f) (by omega)
      have h2 := uk_1 (A := A) (w := oA A f 3) (s := f) rfl (oA A f 2) h1.2.2.2.1
      show 1 ≤ us A (oA A f 3) f 0 + uk A (oA A f 3) (f + 0) (oA A (f + 0) 2)
      rw [Nat.add_zero]; omega
    · have := ih (by omega) (by omega); omega
theorem lk_pos (hV : VA A) {f d g e : Nat} (hd : 1 ≤ d) (hf : f + d ≤ A 6) : 0 < smx (fun w => us A w f d) (fun w => us A w g e) (A 7) := by
  have h1 := us_1 hV d hd hf
  have h2 := hV.wd (s := f) (k := 0) (by omega) (by have := hV.seg (s := f) (by omega); omega)
  exact smx_pos (w := oA A f 3) (A 7) h2 h1
/-- the reference's count of uses -/
theorem q_usesK (hM : MR A a) {w s c : Nat} {x3 : Int32} (hs : s < 32) (hz : oA A s 2 ≤ 8) (hw : w < 2 ^ 31) (hb : ∀ k, k < oA A s 2 → oA A s (3 + k) < 2 ^ 31) : wh (fun k q => S_X11_usesIn_15 (nI w) x3 (nI s) a k q.1 q.2) wF (nI c, (0 : Int32)) = some (nI (c + uk A w s (oA A s 2))) := by
  refine whf (fun j => (nI (c + uk A w s j), nI j)) 0 (oA A s 2) rfl (by omega) (by omega) (fun j _ hj k => ?_) (fun k => ?_)
  · have h1 := hb j hj
    by_cases h2 : oA A s (3 + j) = w
    · simp (disch := omega) only [fa_lit, fa_litL, nI_add, pk_mul, pk_sub, nI_clamp, gi_n, gb_0, gb_1, nI_ltI, nI_leI, nI_eq, lc_lt, lc_gt, lc_ge, lc_le, lc_eq, lN_i, nI_l, lN_add, lN_mul, lN_lt, lN_le, lN_eq, mI_eqR, mI_eqL, mI_ltL, mI_ltR, mI_leL, mI_leR, mI_add, ob1_some, ob2_some, ob3_some, ob4_some, ob5_some, ob6_some, ob7_some, ob8_some, if_true, if_false, if_pos, if_neg, Sum.elim_inl, Sum.elim_inr, un1, un2, un3, un4, un5, Nat.zero_add, Nat.add_zero, Nat.mul_one, Nat.mul_zero, Nat.sub_zero, pk_us, pk_uLs, xoq_l, xoq_r, nI_sle, S_X11_usesIn_15, q_of hM, uk, Nat.add_assoc]
    · simp (disch := omega) only [fa_lit, fa_litL, nI_add, pk_mul, pk_sub, nI_clamp, gi_n, gb_0, gb_1, nI_ltI, nI_leI, nI_eq, lc_lt, lc_gt, lc_ge, lc_le, lc_eq, lN_i, nI_l, lN_add, lN_mul, lN_lt, lN_le, lN_eq, mI_eqR, mI_eqL, mI_ltL, mI_ltR, mI_leL, mI_leR, mI_add, ob1_some, ob2_some, ob3_some, ob4_some, ob5_some, ob6_some, ob7_some, ob8_some, if_true, if_false, if_pos, if_neg, Sum.elim_inl, Sum.elim_inr, un1, un2, un3, un4, un5, Nat.zero_add, Nat.add_zero, Nat.mul_one, Nat.mul_zero, Nat.sub_zero, pk_us, pk_uLs, xoq_l, xoq_r, nI_sle, S_X11_usesIn_15, q_of hM, uk, Nat.add_assoc]
  · simp (disch := omega) only [fa_lit, fa_litL, nI_add, pk_mul, pk_sub, nI_clamp, gi_n, gb_0, gb_1, nI_ltI, nI_leI, nI_eq, lc_lt, lc_gt, lc_ge, lc_le, lc_eq, lN_i, nI_l, lN_add, lN_mul, lN_lt, lN_le, lN_eq, mI_eqR, mI_eqL, mI_ltL, mI_ltR, mI_leL, mI_leR, mI_add, ob1_some, ob2_some, ob3_some, ob4_some, ob5_some, ob6_some, ob7_some, ob8_some, if_true, if_false, if_pos, if_neg, Sum.elim_inl, Sum.elim_inr, un1, un2, un3, un4, un5, Nat.zero_add, Nat.add_zero, Nat.mul_one, Nat.mul_zero, Nat.sub_zero, pk_us, pk_uLs, xoq_l, xoq_r, nI_sle, S_X11_usesIn_15, q_of hM]
theorem q_usesIn (hV : VA A) (hM : MR A a) {w f t : Nat} (hw : w < 2 ^ 31) (hf : f ≤ t + 1) (ht : t < A 6) : F_X11_usesIn (nI w) (nI f) (nI t) a = some (nI (us A w f (t + 1 - f))) := by
  have hn := hV.n
  unfold F_X11_usesIn
  refine ob1_t (whf (fun j => (nI (us A w f j), nI (f + j))) 0 (t + 1 - f) rfl (by omega) (by omega) (fun j _ hj k => ?_) (fun k => ?_)) rfl
  · have h1 := hV.seg (s := f + j) (by omega)
    have h2 := hV.nw
    have h3 := q_usesK (x3 := nI t) hM (w := w) (s := f + j) (c := us A w f j) (by omega) (by omega) hw (fun k hk => by have := hV.wd (s := f + j) (by omega) hk; omega)
    simp only [n0]  at h3
    simp (disch := omega) only [fa_lit, fa_litL, nI_add, pk_mul, pk_sub, nI_clamp, gi_n, gb_0, gb_1, nI_ltI, nI_leI, nI_eq, lc_lt, lc_gt, lc_ge, lc_le, lc_eq, lN_i, nI_l, lN_add, lN_mul, lN_lt, lN_le, lN_eq, mI_eqR, mI_eqL, mI_ltL, mI_ltR, mI_leL, mI_leR, mI_add, ob1_some, ob2_some, ob3_some, ob4_some, ob5_some, ob6_some, ob7_some, ob8_some, if_true, if_false, if_pos, if_neg, Sum.elim_inl, Sum.elim_inr, un1, un2, un3, un4, un5, Nat.zero_add, Nat.add_zero, Nat.mul_one, Nat.mul_zero, Nat.sub_zero, pk_us, pk_uLs, xoq_l, xoq_r, nI_sle, S_X11_usesIn_6, h3, us_s, Nat.add_assoc]
  · simp (disch := omega) only [fa_lit, fa_litL, nI_add, pk_mul, pk_sub, nI_clamp, gi_n, gb_0, gb_1, nI_ltI, nI_leI, nI_eq, lc_lt, lc_gt, lc_ge, lc_le, lc_eq, lN_i, nI_l, lN_add, lN_mul, lN_lt, lN_le, lN_eq, mI_eqR, mI_eqL, mI_ltL, mI_ltR, mI_leL, mI_leR, mI_add, ob1_some, ob2_some, ob3_some, ob4_some, ob5_some, ob6_some, ob7_some, ob8_some, if_true, if_false, if_pos, if_neg, Sum.elim_inl, Sum.elim_inr, un1, un2, un3, un4, un5, Nat.zero_add, Nat.add_zero, Nat.mul_one, Nat.mul_zero, Nat.sub_zero, pk_us, pk_uLs, xoq_l, xoq_r, nI_sle, S_X11_usesIn_6]
/-- the class's count of uses -/
theorem p_countK (hV : VA A) (h : TR A sc wc ord dur pau siz wor nam) {w s c : Nat} {x3 : Int32} (hs : s < A 6) (hw : w < 2 ^ 31) : wh (fun k q => S_X9_countIn_23 (nI w) x3 (nI s) (nI (oA A s 2)) ord siz wor k q.1 q.2) wF (nI c, (0 : Int32)) = some (nI (c + uk A w s (oA A s 2))) := by
  have h0 := hV.seg hs
  have hnw := hV.nw
  refine whf (fun j => (nI (c + uk A w s j), nI j)) 0 (oA A s 2) rfl (by omega) (by omega) (fun j _ hj k => ?_) (fun k => ?_)
  · have h1 := hV.wd hs hj
    by_cases h2 : oA A s (3 + j) = w
    · simp (disch := omega) only [fa_lit, fa_litL, nI_add, pk_mul, pk_sub, nI_clamp, gi_n, gb_0, gb_1, nI_ltI, nI_leI, nI_eq, lc_lt, lc_gt, lc_ge, lc_le, lc_eq, lN_i, nI_l, lN_add, lN_mul, lN_lt, lN_le, lN_eq, mI_eqR, mI_eqL, mI_ltL, mI_ltR, mI_leL, mI_leR, mI_add, ob1_some, ob2_some, ob3_some, ob4_some, ob5_some, ob6_some, ob7_some, ob8_some, if_true, if_false, if_pos, if_neg, Sum.elim_inl, Sum.elim_inr, un1, un2, un3, un4, un5, Nat.zero_add, Nat.add_zero, Nat.mul_one, Nat.mul_zero, Nat.sub_zero, pk_us, pk_uLs, xoq_l, xoq_r, nI_sle, S_X9_countIn_23, p_wordAt hV h, uk, Nat.add_assoc]
    · simp (disch := omega) only [fa_lit, fa_litL, nI_add, pk_mul, pk_sub, nI_clamp, gi_n, gb_0, gb_1, nI_ltI, nI_leI, nI_eq, lc_lt, lc_gt, lc_ge, lc_le, lc_eq, lN_i, nI_l, lN_add, lN_mul, lN_lt, lN_le, lN_eq, mI_eqR, mI_eqL, mI_ltL, mI_ltR, mI_leL, mI_leR, mI_add, ob1_some, ob2_some, ob3_some, ob4_some, ob5_some, ob6_some, ob7_some, ob8_some, if_true, if_false, if_pos, if_neg, Sum.elim_inl, Sum.elim_inr, un1, un2, un3, un4, un5, Nat.zero_add, Nat.add_zero, Nat.mul_one, Nat.mul_zero, Nat.sub_zero, pk_us, pk_uLs, xoq_l, xoq_r, nI_sle, S_X9_countIn_23, p_wordAt hV h, uk, Nat.add_assoc]
  · simp (disch := omega) only [fa_lit, fa_litL, nI_add, pk_mul, pk_sub, nI_clamp, gi_n, gb_0, gb_1, nI_ltI, nI_leI, nI_eq, lc_lt, lc_gt, lc_ge, lc_le, lc_eq, lN_i, nI_l, lN_add, lN_mul, lN_lt, lN_le, lN_eq, mI_eqR, mI_eqL, mI_ltL, mI_ltR, mI_leL, mI_leR, mI_add, ob1_some, ob2_some, ob3_some, ob4_some, ob5_some, ob6_some, ob7_some, ob8_some, if_true, if_false, if_pos, if_neg, Sum.elim_inl, Sum.elim_inr, un1, un2, un3, un4, un5, Nat.zero_add, Nat.add_zero, Nat.mul_one, Nat.mul_zero, Nat.sub_zero, pk_us, pk_uLs, xoq_l, xoq_r, nI_sle, S_X9_countIn_23]
theorem p_countIn (hV : VA A) (h : TR A sc wc ord dur pau siz wor nam) {w f t : Nat} (hw : w < 2 ^ 31) (hf : f ≤ t + 1) (ht : t < A 6) : F_X9_countIn (nI w) (nI f) (nI t) ord siz wor = some (nI (us A w f (t + 1 - f))) := by
  have hn := hV.n
  unfold F_X9_countIn
  refine ob1_t (whf (fun j => (nI (us A w f j), nI (f + j))) 0 (t + 1 - f) rfl (by omega) (by omega) (fun j _ hj k => ?_) (fun k => ?_)) rfl
  · have h3 := p_countK (x3 := nI t) hV h (w := w) (s := f + j) (c := us A w f j) (by omega) hw
    simp only [n0] at h3
    simp (disch := omega) only [fa_lit, fa_litL, nI_add, pk_mul, pk_sub, nI_clamp, gi_n, gb_0, gb_1, nI_ltI, nI_leI, nI_eq, lc_lt, lc_gt, lc_ge, lc_le, lc_eq, lN_i, nI_l, lN_add, lN_mul, lN_lt, lN_le, lN_eq, mI_eqR, mI_eqL, mI_ltL, mI_ltR, mI_leL, mI_leR, mI_add, ob1_some, ob2_some, ob3_some, ob4_some, ob5_some, ob6_some, ob7_some, ob8_some, if_true, if_false, if_pos, if_neg, Sum.elim_inl, Sum.elim_inr, un1, un2, un3, un4, un5, Nat.zero_add, Nat.add_zero, Nat.mul_one, Nat.mul_zero, Nat.sub_zero, pk_us, pk_uLs, xoq_l, xoq_r, nI_sle, S_X9_countIn_6, p_sizeOf hV h, h3, us_s, Nat.add_assoc]
  · simp (disch := omega) only [fa_lit, fa_litL, nI_add, pk_mul, pk_sub, nI_clamp, gi_n, gb_0, gb_1, nI_ltI, nI_leI, nI_eq, lc_lt, lc_gt, lc_ge, lc_le, lc_eq, lN_i, nI_l, lN_add, lN_mul, lN_lt, lN_le, lN_eq, mI_eqR, mI_eqL, mI_ltL, mI_ltR, mI_leL, mI_leR, mI_add, ob1_some, ob2_some, ob3_some, ob4_some, ob5_some, ob6_some, ob7_some, ob8_some, if_true, if_false, if_pos, if_neg, Sum.elim_inl, Sum.elim_inr, un1, un2, un3, un4, un5, Nat.zero_add, Nat.add_zero, Nat.mul_one, Nat.mul_zero, Nat.sub_zero, pk_us, pk_uLs, xoq_l, xoq_r, nI_sle, S_X9_countIn_6]
/-- a tally -/
theorem p_tallyS (hV : VA A) (h : TR A sc wc ord dur pau siz wor nam) {n3 off s : Nat} {x2 : Int32} {p : Nat → Int32} {c : Nat → Nat} (hs : s < A 6) (hoff : off + 24 ≤ n3) (hn3 : n3 < 2 ^ 30) (hp : ∀ w, w < 24 → p (off + w) = nI (c w)) :
    ∃ p', wh (fun k q => S_X9_tally_20 n3 x2 (nI off) (nI s) (nI (oA A s 2)) ord siz wor k q.1 q.2) wF ((0 : Int32), p) = some p' ∧ (∀ w, w < 24 → p' (off + w) = nI (c w + uk A w s (oA A s 2))) ∧ ∀ j, j < off ∨ off + 24 ≤ j → p' j = p j := by
  have h0 := hV.seg hs
  have hnw := hV.nw
  refine wh_up (oA A s 2) (by omega) (fun (j : Nat) (q : Int32 × (Nat → Int32)) => q.1 = nI j ∧ (∀ w, w < 24 → q.2 (off + w) = nI (c w + uk A w s j)) ∧ ∀ j, j < off ∨ off + 24 ≤ j → q.2 j = p j) (fun (o : Option (((Nat → Int32)))) => ∃ p', o = some p' ∧ (∀ w, w < 24 → p' (off + w) = nI (c w + uk A w s (oA A s 2))) ∧ ∀ j, j < off ∨ off + 24 ≤ j → p' j = p j) (fun j q hj hI k hk => ?_) (Nat.zero_le _) ⟨rfl, fun w hw => hp w hw, fun _ _ => rfl⟩
  obtain ⟨l, P⟩ := q
  obtain ⟨e1, e2, e3⟩ := hI
  have e1 : l = nI j := e1
  subst e1
  have e2 : ∀ {w}, w < 24 → P (off + w) = nI (c w + uk A w s j) := fun {w} h => e2 w h
  by_cases hlt : j < oA A s 2
  · have hw := hV.wd hs hlt
    have h9 := hk hlt (nI (j + 1), upd P (off + oA A s (3 + j)) (nI (c (oA A s (3 + j)) + uk A (oA A s (3 + j)) s j + 1))) ⟨rfl, fun w hw2 => ?_, fun i hi => ?_⟩
    · simp (disch := omega) only [fa_lit, fa_litL, nI_add, pk_mul, pk_sub, nI_clamp, gi_n, gb_0, gb_1, nI_ltI, nI_leI, nI_eq, lc_lt, lc_gt, lc_ge, lc_le, lc_eq, lN_i, nI_l, lN_add, lN_mul, lN_lt, lN_le, lN_eq, mI_eqR, mI_eqL, mI_ltL, mI_ltR, mI_leL, mI_leR, mI_add, ob1_some, ob2_some, ob3_some, ob4_some, ob5_some, ob6_some, ob7_some, ob8_some, if_true, if_false, if_pos, if_neg, Sum.elim_inl, Sum.elim_inr, un1, un2, un3, un4, un5, Nat.zero_add, Nat.add_zero, Nat.mul_one, Nat.mul_zero, Nat.sub_zero, pk_us, pk_uLs, xoq_l, xoq_r, nI_sle, S_X9_tally_20, p_wordAt hV h, e2]
      exact h9
    · show upd P (off + oA A s (3 + j)) _ (off + w) = nI (c w + uk A w s (j + 1))
      rw [uk_s]
      by_cases h7 : oA A s (3 + j) = w
      · rw [h7, pk_us, if_pos rfl]; rfl
      · rw [pk_un (by omega), e2 hw2, if_neg h7]
    · show upd P (off + oA A s (3 + j)) _ i = p i
      rw [pk_un (by omega)]
      exact e3 i hi
  · have h8 : j = oA A s 2 := by omega
    subst h8
    simp (disch := omega) only [fa_lit, fa_litL, nI_add, pk_mul, pk_sub, nI_clamp, gi_n, gb_0, gb_1, nI_ltI, nI_leI, nI_eq, lc_lt, lc_gt, lc_ge, lc_le, lc_eq, lN_i, nI_l, lN_add, lN_mul, lN_lt, lN_le, lN_eq, mI_eqR, mI_eqL, mI_ltL, mI_ltR, mI_leL, mI_leR, mI_add, ob1_some, ob2_some, ob3_some, ob4_some, ob5_some, ob6_some, ob7_some, ob8_some, if_true, if_false, if_pos, if_neg, Sum.elim_inl, Sum.elim_inr, un1, un2, un3, un4, un5, Nat.zero_add, Nat.add_zero, Nat.mul_one, Nat.mul_zero, Nat.sub_zero, pk_us, pk_uLs, xoq_l, xoq_r, nI_sle, S_X9_tally_20]
    exact ⟨P, rfl, fun w hw => e2 hw, e3⟩
theorem p_tally (hV : VA A) (h : TR A sc wc ord dur pau siz wor nam) {n3 off f t : Nat} {p : Nat → Int32} {c : Nat → Nat} (hf : f ≤ t + 1) (ht : t < A 6) (hoff : off + 24 ≤ n3) (hn3 : n3 < 2 ^ 30) (hp : ∀ w, w < 24 → p (off + w) = nI (c w)) :
    ∃ p', F_X9_tally n3 (nI f) (nI t) (nI off) ord siz wor p = some p' ∧ (∀ w, w < 24 → p' (off + w) = nI (c w + us A w f (t + 1 - f))) ∧ ∀ j, j < off ∨ off + 24 ≤ j → p' j = p j := by
  have hn := hV.n
  have key : ∃ p', wh (fun k q => S_X9_tally_3 n3 (nI t) (nI off) ord siz wor k q.1 q.2) wF (nI f, p) = some p' ∧ (∀ w, w < 24 → p' (off + w) = nI (c w + us A w f (t + 1 - f))) ∧ ∀ j, j < off ∨ off + 24 ≤ j → p' j = p j := by
    refine wh_up (t + 1 - f) (by omega) (fun (j : Nat) (q : Int32 × (Nat → Int32)) => q.1 = nI (f + j) ∧ (∀ w, w < 24 → q.2 (off + w) = nI (c w + us A w f j)) ∧ ∀ j, j < off ∨ off + 24 ≤ j → q.2 j = p j) (fun (o : Option (((Nat → Int32)))) => ∃ p', o = some p' ∧ (∀ w, w < 24 → p' (off + w) = nI (c w + us A w f (t + 1 - f))) ∧ ∀ j, j < off ∨ off + 24 ≤ j → p' j = p j) (fun j q hj hI k hk => ?_) (Nat.zero_le _) ⟨rfl, fun w hw => hp w hw, fun _ _ => rfl⟩
    obtain ⟨l, P⟩ := q
    obtain ⟨e1, e2, e3⟩ := hI
    have e1 : l = nI (f + j) := e1
    subst e1
    by_cases hlt : j < t + 1 - f
    · obtain ⟨P2, g1, g2, g3⟩ := p_tallyS (x2 := nI t) (p := P) (c := fun w => c w + us A w f j) hV h (s := f + j) (by omega) hoff hn3 e2
      have h9 := hk hlt (nI (f + j + 1), P2) ⟨by rw [Nat.add_assoc], fun w hw => ?_, fun i hi => ?_⟩
      · simp only [n0] at g1
        simp (disch := omega) only [fa_lit, fa_litL, nI_add, pk_mul, pk_sub, nI_clamp, gi_n, gb_0, gb_1, nI_ltI, nI_leI, nI_eq, lc_lt, lc_gt, lc_ge, lc_le, lc_eq, lN_i, nI_l, lN_add, lN_mul, lN_lt, lN_le, lN_eq, mI_eqR, mI_eqL, mI_ltL, mI_ltR, mI_leL, mI_leR, mI_add, ob1_some, ob2_some, ob3_some, ob4_some, ob5_some, ob6_some, ob7_some, ob8_some, if_true, if_false, if_pos, if_neg, Sum.elim_inl, Sum.elim_inr, un1, un2, un3, un4, un5, Nat.zero_add, Nat.add_zero, Nat.mul_one, Nat.mul_zero, Nat.sub_zero, pk_us, pk_uLs, xoq_l, xoq_r, nI_sle, S_X9_tally_3, p_sizeOf hV h, g1]
        exact h9
      · show P2 (off + w) = nI (c w + us A w f (j + 1))
        rw [g2 w hw, us_s, Nat.add_assoc]
      · exact (g3 i hi).trans (e3 i hi)
    · have h8 : j = t + 1 - f := by omega
      subst h8
      simp (disch := omega) only [fa_lit, fa_litL, nI_add, pk_mul, pk_sub, nI_clamp, gi_n, gb_0, gb_1, nI_ltI, nI_leI, nI_eq, lc_lt, lc_gt, lc_ge, lc_le, lc_eq, lN_i, nI_l, lN_add, lN_mul, lN_lt, lN_le, lN_eq, mI_eqR, mI_eqL, mI_ltL, mI_ltR, mI_leL, mI_leR, mI_add, ob1_some, ob2_some, ob3_some, ob4_some, ob5_some, ob6_some, ob7_some, ob8_some, if_true, if_false, if_pos, if_neg, Sum.elim_inl, Sum.elim_inr, un1, un2, un3, un4, un5, Nat.zero_add, Nat.add_zero, Nat.mul_one, Nat.mul_zero, Nat.sub_zero, pk_us, pk_uLs, xoq_l, xoq_r, nI_sle, S_X9_tally_3]
      exact ⟨P, rfl, e2, e3⟩
  obtain ⟨p', g1, g2⟩ := key
  exact ⟨p', by unfold F_X9_tally; rw [g1]; rfl, g2⟩
/-- how like two rows of counts are -/
theorem p_percentAlike {n0' n2' o1 o2 : Nat} {p0 p2 : Nat → Int32} {c e : Nat → Nat} (h1 : o1 + 24 ≤ n0') (h2 : o2 + 24 ≤ n2') (h3 : n0' < 2 ^ 30) (h4 : n2' < 2 ^ 30) (hc : ∀ w, w < 24 → p0 (o1 + w) = nI (c w)) (he : ∀ w, w < 24 → p2 (o2 + w) = nI (e w)) (hb : ∀ w, w < 24 → c w ≤ 256 ∧ e w ≤ 256) : F_X10_percentAlike n0' n2' (nI o1) (nI o2) p0 p2 = some (nI (lkv c e 24)) := by
  have hc : ∀ {w}, w < 24 → p0 (o1 + w) = nI (c w) := fun {w} h => hc w h
  have he : ∀ {w}, w < 24 → p2 (o2 + w) = nI (e w) := fun {w} h => he w h
  have g1 := smx_le hb 24 (Nat.le_refl 24)
  have g2 := smn_le c e 24
  unfold F_X10_percentAlike
  have h7 : wh (fun k q => S_X10_percentAlike_9 n0' n2' (nI o1) (nI o2) p0 p2 k q.1 q.2.1 q.2.2) wF ((0 : Int32), (0 : Int32), (0 : Int32)) = some (nI (smn c e 24), nI (smx c e 24)) := by
    refine whf (fun j => (nI (smn c e j), nI (smx c e j), nI j)) 0 24 rfl (by omega) (by omega) (fun j _ hj k => ?_) (fun k => ?_)
    · have h5 := hb j hj
      by_cases h6 : c j < e j
      · simp (disch := omega) only [fa_lit, fa_litL, nI_add, pk_mul, pk_sub, nI_clamp, gi_n, gb_0, gb_1, nI_ltI, nI_leI, nI_eq, lc_lt, lc_gt, lc_ge, lc_le, lc_eq, lN_i, nI_l, lN_add, lN_mul, lN_lt, lN_le, lN_eq, mI_eqR, mI_eqL, mI_ltL, mI_ltR, mI_leL, mI_leR, mI_add, ob1_some, ob2_some, ob3_some, ob4_some, ob5_some, ob6_some, ob7_some, ob8_some, if_true, if_false, if_pos, if_neg, Sum.elim_inl, Sum.elim_inr, un1, un2, un3, un4, un5, Nat.zero_add, Nat.add_zero, Nat.mul_one, Nat.mul_zero, Nat.sub_zero, pk_us, pk_uLs, xoq_l, xoq_r, nI_sle, S_X10_percentAlike_9, hc, he, smn_s, smx_s]
      · by_cases h8 : e j < c j
        · simp (disch := omega) only [fa_lit, fa_litL, nI_add, pk_mul, pk_sub, nI_clamp, gi_n, gb_0, gb_1, nI_ltI, nI_leI, nI_eq, lc_lt, lc_gt, lc_ge, lc_le, lc_eq, lN_i, nI_l, lN_add, lN_mul, lN_lt, lN_le, lN_eq, mI_eqR, mI_eqL, mI_ltL, mI_ltR, mI_leL, mI_leR, mI_add, ob1_some, ob2_some, ob3_some, ob4_some, ob5_some, ob6_some, ob7_some, ob8_some, if_true, if_false, if_pos, if_neg, Sum.elim_inl, Sum.elim_inr, un1, un2, un3, un4, un5, Nat.zero_add, Nat.add_zero, Nat.mul_one, Nat.mul_zero, Nat.sub_zero, pk_us, pk_uLs, xoq_l, xoq_r, nI_sle, S_X10_percentAlike_9, hc, he, smn_s, smx_s]
        · simp (disch := omega) only [fa_lit, fa_litL, nI_add, pk_mul, pk_sub, nI_clamp, gi_n, gb_0, gb_1, nI_ltI, nI_leI, nI_eq, lc_lt, lc_gt, lc_ge, lc_le, lc_eq, lN_i, nI_l, lN_add, lN_mul, lN_lt, lN_le, lN_eq, mI_eqR, mI_eqL, mI_ltL, mI_ltR, mI_leL, mI_leR, mI_add, ob1_some, ob2_some, ob3_some, ob4_some, ob5_some, ob6_some, ob7_some, ob8_some, if_true, if_false, if_pos, if_neg, Sum.elim_inl, Sum.elim_inr, un1, un2, un3, un4, un5, Nat.zero_add, Nat.add_zero, Nat.mul_one, Nat.mul_zero, Nat.sub_zero, pk_us, pk_uLs, xoq_l, xoq_r, nI_sle, S_X10_percentAlike_9, hc, he, smn_s, smx_s]
    · simp (disch := omega) only [fa_lit, fa_litL, nI_add, pk_mul, pk_sub, nI_clamp, gi_n, gb_0, gb_1, nI_ltI, nI_leI, nI_eq, lc_lt, lc_gt, lc_ge, lc_le, lc_eq, lN_i, nI_l, lN_add, lN_mul, lN_lt, lN_le, lN_eq, mI_eqR, mI_eqL, mI_ltL, mI_ltR, mI_leL, mI_leR, mI_add, ob1_some, ob2_some, ob3_some, ob4_some, ob5_some, ob6_some, ob7_some, ob8_some, if_true, if_false, if_pos, if_neg, Sum.elim_inl, Sum.elim_inr, un1, un2, un3, un4, un5, Nat.zero_add, Nat.add_zero, Nat.mul_one, Nat.mul_zero, Nat.sub_zero, pk_us, pk_uLs, xoq_l, xoq_r, nI_sle, S_X10_percentAlike_9]
  rw [h7]
  by_cases h0 : smx c e 24 = 0
  · simp (disch := omega) only [fa_lit, fa_litL, nI_add, pk_mul, pk_sub, nI_clamp, gi_n, gb_0, gb_1, nI_ltI, nI_leI, nI_eq, lc_lt, lc_gt, lc_ge, lc_le, lc_eq, lN_i, nI_l, lN_add, lN_mul, lN_lt, lN_le, lN_eq, mI_eqR, mI_eqL, mI_ltL, mI_ltR, mI_leL, mI_leR, mI_add, ob1_some, ob2_some, ob3_some, ob4_some, ob5_some, ob6_some, ob7_some, ob8_some, if_true, if_false, if_pos, if_neg, Sum.elim_inl, Sum.elim_inr, un1, un2, un3, un4, un5, Nat.zero_add, Nat.add_zero, Nat.mul_one, Nat.mul_zero, Nat.sub_zero, pk_us, pk_uLs, xoq_l, xoq_r, nI_sle, h0, lkv, Nat.div_zero]
  · have h9 : ¬ nI (smx c e 24) = nI 0 := fun q => h0 ((nI_eq (by omega) (by omega)).mp q)
    simp (disch := omega) only [fa_lit, fa_litL, nI_add, pk_mul, pk_sub, nI_clamp, gi_n, gb_0, gb_1, nI_ltI, nI_leI, nI_eq, lc_lt, lc_gt, lc_ge, lc_le, lc_eq, lN_i, nI_l, lN_add, lN_mul, lN_lt, lN_le, lN_eq, mI_eqR, mI_eqL, mI_ltL, mI_ltR, mI_leL, mI_leR, mI_add, ob1_some, ob2_some, ob3_some, ob4_some, ob5_some, ob6_some, ob7_some, ob8_some, if_true, if_false, if_pos, if_neg, Sum.elim_inl, Sum.elim_inr, un1, un2, un3, un4, un5, Nat.zero_add, Nat.add_zero, Nat.mul_one, Nat.mul_zero, Nat.sub_zero, pk_us, pk_uLs, xoq_l, xoq_r, nI_sle, lkv, gzi, n0, h9]
    rw [pk_div (by omega) (by omega) (by omega)]
theorem p_percentAlike' {n0' n2' o1 o2 : Nat} {p0 : Nat → Int32} {c e : Nat → Nat} (h1 : o1 + 24 ≤ n0') (h2 : o2 + 24 ≤ n0') (h3 : n0' < 2 ^ 30) (hc : ∀ w, w < 24 → p0 (o1 + w) = nI (c w)) (he : ∀ w, w < 24 → p0 (o2 + w) = nI (e w)) (hb : ∀ w, w < 24 → c w ≤ 256 ∧ e w ≤ 256) : F_X10_percentAlike_p2p0 n0' n2' (nI o1) (nI o2) p0 = some (nI (lkv c e 24)) :=
  p_percentAlike (n2' := n0') h1 h2 h3 h3 hc he hb
theorem lkv_cut (hV : VA A) {f d g e : Nat} (hf : f + d ≤ A 6) (hg : g + e ≤ A 6) : lkv (fun w => us A w f d) (fun w => us A w g e) 24 = lk A f d g e := by
  have hnw := hV.nw
  have h1 := smx_cut (c := fun w => us A w f d) (e := fun w => us A w g e) (W := A 7) (fun w h1 h2 => ⟨us_0 hV h1 d hf, us_0 hV h1 e hg⟩) (24 - A 7) (by omega)
  rw [show A 7 + (24 - A 7) = 24 by omega] at h1
  unfold lk lkv
  rw [h1.1, h1.2]
theorem q_likenessOf (hV : VA A) (hM : MR A a) {f t g u : Nat} (hf : f ≤ t) (ht : t < A 6) (hg : g ≤ u + 1) (hu : u < A 6) : F_X11_likenessOf (nI f) (nI t) (nI g) (nI u) a = some (nI (lk A f (t + 1 - f) g (u + 1 - g))) := by
  have hn := hV.n
  have hnw := hV.nw
  unfold F_X11_likenessOf
  have hb : ∀ w, w < A 7 → us A w f (t + 1 - f) ≤ 256 ∧ us A w g (u + 1 - g) ≤ 256 := fun w _ => by
    have e1 := us_le hV (w := w) (f := f) (t + 1 - f) (by omega)
    have e2 := us_le hV (w := w) (f := g) (u + 1 - g) (by omega)
    omega
  have h7 : wh (fun k q => S_X11_likenessOf_9 (nI f) (nI t) (nI g) (nI u) a k q.1 q.2.1 q.2.2) wF ((0 : Int32), (0 : Int32), (0 : Int32)) = some (nI (smn (fun w => us A w f (t + 1 - f)) (fun w => us A w g (u + 1 - g)) (A 7)), nI (smx (fun w => us A w f (t + 1 - f)) (fun w => us A w g (u + 1 - g)) (A 7))) := by
    refine whf (fun j => (nI (smn (fun w => us A w f (t + 1 - f)) (fun w => us A w g (u + 1 - g)) j), nI (smx (fun w => us A w f (t + 1 - f)) (fun w => us A w g (u + 1 - g)) j), nI j)) 0 (A 7) rfl (by omega) (by omega) (fun j _ hj k => ?_) (fun k => ?_)
    · have h5 := hb j hj
      by_cases h6 : us A j f (t + 1 - f) < us A j g (u + 1 - g)
      · simp (disch := omega) only [fa_lit, fa_litL, nI_add, pk_mul, pk_sub, nI_clamp, gi_n, gb_0, gb_1, nI_ltI, nI_leI, nI_eq, lc_lt, lc_gt, lc_ge, lc_le, lc_eq, lN_i, nI_l, lN_add, lN_mul, lN_lt, lN_le, lN_eq, mI_eqR, mI_eqL, mI_ltL, mI_ltR, mI_leL, mI_leR, mI_add, ob1_some, ob2_some, ob3_some, ob4_some, ob5_some, ob6_some, ob7_some, ob8_some, if_true, if_false, if_pos, if_neg, Sum.elim_inl, Sum.elim_inr, un1, un2, un3, un4, un5, Nat.zero_add, Nat.add_zero, Nat.mul_one, Nat.mul_zero, Nat.sub_zero, pk_us, pk_uLs, xoq_l, xoq_r, nI_sle, S_X11_likenessOf_9, F_X11_likenessOf_b60, hM.at, q_usesIn hV hM, smn_s, smx_s]
      · by_cases h8 : us A j g (u + 1 - g) < us A j f (t + 1 - f)
        · simp (disch := omega) only [fa_lit, fa_litL, nI_add, pk_mul, pk_sub, nI_clamp, gi_n, gb_0, gb_1, nI_ltI, nI_leI, nI_eq, lc_lt, lc_gt, lc_ge, lc_le, lc_eq, lN_i, nI_l, lN_add, lN_mul, lN_lt, lN_le, lN_eq, mI_eqR, mI_eqL, mI_ltL, mI_ltR, mI_leL, mI_leR, mI_add, ob1_some, ob2_some, ob3_some, ob4_some, ob5_some, ob6_some, ob7_some, ob8_some, if_true, if_false, if_pos, if_neg, Sum.elim_inl, Sum.elim_inr, un1, un2, un3, un4, un5, Nat.zero_add, Nat.add_zero, Nat.mul_one, Nat.mul_zero, Nat.sub_zero, pk_us, pk_uLs, xoq_l, xoq_r, nI_sle, S_X11_likenessOf_9, F_X11_likenessOf_b60, hM.at, q_usesIn hV hM, smn_s, smx_s]
        · have h9 : us A j g (u + 1 - g) = us A j f (t + 1 - f) := by omega
          simp (disch := omega) only [fa_lit, fa_litL, nI_add, pk_mul, pk_sub, nI_clamp, gi_n, gb_0, gb_1, nI_ltI, nI_leI, nI_eq, lc_lt, lc_gt, lc_ge, lc_le, lc_eq, lN_i, nI_l, lN_add, lN_mul, lN_lt, lN_le, lN_eq, mI_eqR, mI_eqL, mI_ltL, mI_ltR, mI_leL, mI_leR, mI_add, ob1_some, ob2_some, ob3_some, ob4_some, ob5_some, ob6_some, ob7_some, ob8_some, if_true, if_false, if_pos, if_neg, Sum.elim_inl, Sum.elim_inr, un1, un2, un3, un4, un5, Nat.zero_add, Nat.add_zero, Nat.mul_one, Nat.mul_zero, Nat.sub_zero, pk_us, pk_uLs, xoq_l, xoq_r, nI_sle, S_X11_likenessOf_9, F_X11_likenessOf_b60, hM.at, q_usesIn hV hM, smn_s, smx_s, h9]
    · simp (disch := omega) only [fa_lit, fa_litL, nI_add, pk_mul, pk_sub, nI_clamp, gi_n, gb_0, gb_1, nI_ltI, nI_leI, nI_eq, lc_lt, lc_gt, lc_ge, lc_le, lc_eq, lN_i, nI_l, lN_add, lN_mul, lN_lt, lN_le, lN_eq, mI_eqR, mI_eqL, mI_ltL, mI_ltR, mI_leL, mI_leR, mI_add, ob1_some, ob2_some, ob3_some, ob4_some, ob5_some, ob6_some, ob7_some, ob8_some, if_true, if_false, if_pos, if_neg, Sum.elim_inl, Sum.elim_inr, un1, un2, un3, un4, un5, Nat.zero_add, Nat.add_zero, Nat.mul_one, Nat.mul_zero, Nat.sub_zero, pk_us, pk_uLs, xoq_l, xoq_r, nI_sle, S_X11_likenessOf_9, hM.at]
  rw [h7]
  have g0 := lk_pos hV (f := f) (d := t + 1 - f) (g := g) (e := u + 1 - g) (by omega) (by omega)
  have g1 := smx_le hb (A 7) (Nat.le_refl _)
  have g2 := smn_le (fun w => us A w f (t + 1 - f)) (fun w => us A w g (u + 1 - g)) (A 7)
  have g3 : 256 * A 7 ≤ 256 * 24 := Nat.mul_le_mul_left _ hnw
  have h9 : ¬ nI (smx (fun w => us A w f (t + 1 - f)) (fun w => us A w g (u + 1 - g)) (A 7)) = nI 0 := fun q => by
    have := (nI_eq (by omega) (by omega)).mp q
    omega
  simp (disch := omega) only [fa_lit, fa_litL, nI_add, pk_mul, pk_sub, nI_clamp, gi_n, gb_0, gb_1, nI_ltI, nI_leI, nI_eq, lc_lt, lc_gt, lc_ge, lc_le, lc_eq, lN_i, nI_l, lN_add, lN_mul, lN_lt, lN_le, lN_eq, mI_eqR, mI_eqL, mI_ltL, mI_ltR, mI_leL, mI_leR, mI_add, ob1_some, ob2_some, ob3_some, ob4_some, ob5_some, ob6_some, ob7_some, ob8_some, if_true, if_false, if_pos, if_neg, Sum.elim_inl, Sum.elim_inr, un1, un2, un3, un4, un5, Nat.zero_add, Nat.add_zero, Nat.mul_one, Nat.mul_zero, Nat.sub_zero, pk_us, pk_uLs, xoq_l, xoq_r, nI_sle, lk, lkv, gzi, n0, h9]
  rw [pk_div (by omega) (by omega) (by omega)]
theorem wlo {b w : Nat} : nI b - nI w + nI 1 = iI ((b : Int) - w + 1) := by
  rw [nI_iSub, iI_n 1, iI_add]; rfl
theorem q_changeOf (hV : VA A) (hM : MR A a) {b : Nat} (hb : b + 1 < A 6) : F_X11_changeOf (nI b) a = some (nI (ch A b)) := by
  have hn := hV.n
  have h2 := hV.s2
  have e50 : ∀ {f t : Nat}, f ≤ b → b + 1 ≤ t → t < A 6 → F_X11_changeOf_b50 (nI b) (nI f) (nI t) a = some (nI (100 - lk A f (b + 1 - f) (b + 1) (t - b))) := fun {f t} h3 h4 h5 => by
    have h6 := q_likenessOf hV hM (f := f) (t := b) (g := b + 1) (u := t) h3 (by omega) (by omega) h5
    have h7 := lkv_le (fun w => us A w f (b + 1 - f)) (fun w => us A w (b + 1) (t + 1 - (b + 1))) (A 7)
    simp (disch := omega) only [fa_lit, fa_litL, nI_add, pk_mul, pk_sub, nI_clamp, gi_n, gb_0, gb_1, nI_ltI, nI_leI, nI_eq, lc_lt, lc_gt, lc_ge, lc_le, lc_eq, lN_i, nI_l, lN_add, lN_mul, lN_lt, lN_le, lN_eq, mI_eqR, mI_eqL, mI_ltL, mI_ltR, mI_leL, mI_leR, mI_add, ob1_some, ob2_some, ob3_some, ob4_some, ob5_some, ob6_some, ob7_some, ob8_some, if_true, if_false, if_pos, if_neg, Sum.elim_inl, Sum.elim_inr, un1, un2, un3, un4, un5, Nat.zero_add, Nat.add_zero, Nat.mul_one, Nat.mul_zero, Nat.sub_zero, pk_us, pk_uLs, xoq_l, xoq_r, nI_sle, F_X11_changeOf_b50, h6]
    rw [show t - b = t + 1 - (b + 1) by omega]
    unfold lk
    rw [pk_sub h7]
  have e25 : ∀ {f : Nat}, f ≤ b → F_X11_changeOf_b25 (nI b) (nI (A 2)) (nI f) a = some (nI (100 - lk A f (b + 1 - f) (b + 1) ((if b + A 2 < A 6 - 1 then b + A 2 else A 6 - 1) - b))) := fun {f} h3 => by
    by_cases h4 : b + A 2 < A 6 - 1
    · simp (disch := omega) only [fa_lit, fa_litL, nI_add, pk_mul, pk_sub, nI_clamp, gi_n, gb_0, gb_1, nI_ltI, nI_leI, nI_eq, lc_lt, lc_gt, lc_ge, lc_le, lc_eq, lN_i, nI_l, lN_add, lN_mul, lN_lt, lN_le, lN_eq, mI_eqR, mI_eqL, mI_ltL, mI_ltR, mI_leL, mI_leR, mI_add, ob1_some, ob2_some, ob3_some, ob4_some, ob5_some, ob6_some, ob7_some, ob8_some, if_true, if_false, if_pos, if_neg, Sum.elim_inl, Sum.elim_inr, un1, un2, un3, un4, un5, Nat.zero_add, Nat.add_zero, Nat.mul_one, Nat.mul_zero, Nat.sub_zero, pk_us, pk_uLs, xoq_l, xoq_r, nI_sle, F_X11_changeOf_b25, q_many hM, e50]
    · simp (disch := omega) only [fa_lit, fa_litL, nI_add, pk_mul, pk_sub, nI_clamp, gi_n, gb_0, gb_1, nI_ltI, nI_leI, nI_eq, lc_lt, lc_gt, lc_ge, lc_le, lc_eq, lN_i, nI_l, lN_add, lN_mul, lN_lt, lN_le, lN_eq, mI_eqR, mI_eqL, mI_ltL, mI_ltR, mI_leL, mI_leR, mI_add, ob1_some, ob2_some, ob3_some, ob4_some, ob5_some, ob6_some, ob7_some, ob8_some, if_true, if_false, if_pos, if_neg, Sum.elim_inl, Sum.elim_inr, un1, un2, un3, un4, un5, Nat.zero_add, Nat.add_zero, Nat.mul_one, Nat.mul_zero, Nat.sub_zero, pk_us, pk_uLs, xoq_l, xoq_r, nI_sle, F_X11_changeOf_b25, q_many hM, e50]
  unfold F_X11_changeOf
  by_cases h3 : b + 1 ≤ A 2
  · have h4 : nI b - nI (A 2) + nI 1 ≤ nI 0 := by
      rw [wlo, iI_n 0, iI_le (by omega) (by omega) (by omega) (by omega)]; omega
    simp (disch := omega) only [fa_lit, fa_litL, nI_add, pk_mul, pk_sub, nI_clamp, gi_n, gb_0, gb_1, nI_ltI, nI_leI, nI_eq, lc_lt, lc_gt, lc_ge, lc_le, lc_eq, lN_i, nI_l, lN_add, lN_mul, lN_lt, lN_le, lN_eq, mI_eqR, mI_eqL, mI_ltL, mI_ltR, mI_leL, mI_leR, mI_add, ob1_some, ob2_some, ob3_some, ob4_some, ob5_some, ob6_some, ob7_some, ob8_some, if_true, if_false, if_pos, if_neg, Sum.elim_inl, Sum.elim_inr, un1, un2, un3, un4, un5, Nat.zero_add, Nat.add_zero, Nat.mul_one, Nat.mul_zero, Nat.sub_zero, pk_us, pk_uLs, xoq_l, xoq_r, nI_sle, hM.at, h4, if_true, e25, ch]
    rw [show b + 1 - A 2 = 0 by omega]
    rw [Nat.sub_zero]
  · have h4 : ¬ nI b - nI (A 2) + nI 1 ≤ nI 0 := by
      rw [wlo, iI_n 0, iI_le (by omega) (by omega) (by omega) (by omega)]; omega
    have h5 : nI b - nI (A 2) + nI 1 = nI (b + 1 - A 2) := by
      rw [wlo, iI_n]; congr 1; omega
    simp only [h5] at h4
    simp (disch := omega) only [fa_lit, fa_litL, nI_add, pk_mul, pk_sub, nI_clamp, gi_n, gb_0, gb_1, nI_ltI, nI_leI, nI_eq, lc_lt, lc_gt, lc_ge, lc_le, lc_eq, lN_i, nI_l, lN_add, lN_mul, lN_lt, lN_le, lN_eq, mI_eqR, mI_eqL, mI_ltL, mI_ltR, mI_leL, mI_leR, mI_add, ob1_some, ob2_some, ob3_some, ob4_some, ob5_some, ob6_some, ob7_some, ob8_some, if_true, if_false, if_pos, if_neg, Sum.elim_inl, Sum.elim_inr, un1, un2, un3, un4, un5, Nat.zero_add, Nat.add_zero, Nat.mul_one, Nat.mul_zero, Nat.sub_zero, pk_us, pk_uLs, xoq_l, xoq_r, nI_sle, hM.at, h5, h4, if_false, e25, ch]
    rw [show b - A 2 + 1 = b + 1 - A 2 by omega]
theorem p_fill {n : Nat} {x : Nat} {p : Nat → Int32} (hn : n < 100000) : ∃ p', F_J7_fill_53178 n (nI x) p = some p' ∧ ∀ j, j < n → p' j = nI x := by
  have key : ∃ p', wh (fun k q => S_J7_fill_53178_5 n (nI x) (Int32.ofNat n) k q.1 q.2) wF ((0 : Int32), p) = some p' ∧ ∀ j, j < n → p' j = nI x := by
    refine wh_up n (by omega) (fun (j : Nat) (q : Int32 × (Nat → Int32)) => q.1 = nI j ∧ ∀ i, i < j → q.2 i = nI x) (fun (o : Option (((Nat → Int32)))) => ∃ p', o = some p' ∧ ∀ j, j < n → p' j = nI x) (fun j q hj hI k hk => ?_) (Nat.zero_le _) ⟨rfl, fun i h => absurd h (Nat.not_lt_zero i)⟩
    obtain ⟨l, P⟩ := q
    obtain ⟨e1, e2⟩ := hI
    have e1 : l = nI j := e1
    subst e1
    have e3 : Int32.ofNat n = nI n := rfl
    by_cases hlt : j < n
    · have h9 := hk hlt (nI (j + 1), upd P j (nI x)) ⟨rfl, fun i hi => ?_⟩
      · simp (disch := omega) only [fa_lit, fa_litL, nI_add, pk_mul, pk_sub, nI_clamp, gi_n, gb_0, gb_1, nI_ltI, nI_leI, nI_eq, lc_lt, lc_gt, lc_ge, lc_le, lc_eq, lN_i, nI_l, lN_add, lN_mul, lN_lt, lN_le, lN_eq, mI_eqR, mI_eqL, mI_ltL, mI_ltR, mI_leL, mI_leR, mI_add, ob1_some, ob2_some, ob3_some, ob4_some, ob5_some, ob6_some, ob7_some, ob8_some, if_true, if_false, if_pos, if_neg, Sum.elim_inl, Sum.elim_inr, un1, un2, un3, un4, un5, Nat.zero_add, Nat.add_zero, Nat.mul_one, Nat.mul_zero, Nat.sub_zero, pk_us, pk_uLs, xoq_l, xoq_r, nI_sle, S_J7_fill_53178_5, e3]
        exact h9
      · show upd P j (nI x) i = nI x
        by_cases h : i = j
        · rw [h, pk_us]
        · rw [pk_un h]; exact e2 i (by omega)
    · have h8 : j = n := by omega
      subst h8
      simp (disch := omega) only [fa_lit, fa_litL, nI_add, pk_mul, pk_sub, nI_clamp, gi_n, gb_0, gb_1, nI_ltI, nI_leI, nI_eq, lc_lt, lc_gt, lc_ge, lc_le, lc_eq, lN_i, nI_l, lN_add, lN_mul, lN_lt, lN_le, lN_eq, mI_eqR, mI_eqL, mI_ltL, mI_ltR, mI_leL, mI_leR, mI_add, ob1_some, ob2_some, ob3_some, ob4_some, ob5_some, ob6_some, ob7_some, ob8_some, if_true, if_false, if_pos, if_neg, Sum.elim_inl, Sum.elim_inr, un1, un2, un3, un4, un5, Nat.zero_add, Nat.add_zero, Nat.mul_one, Nat.mul_zero, Nat.sub_zero, pk_us, pk_uLs, xoq_l, xoq_r, nI_sle, S_J7_fill_53178_5, e3]
      exact ⟨P, rfl, e2⟩
  obtain ⟨p', g1, g2⟩ := key
  exact ⟨p', by unfold F_J7_fill_53178; rw [g1]; rfl, g2⟩
/-- the class's likeness of two windows -/
theorem p_windowLikeness (hV : VA A) (h : TR A sc wc ord dur pau siz wor nam) {b : Nat} {le ri : Nat → Int32} (hb : b + 1 < A 6) : ∃ le' ri', F_X0_windowLikeness (nI b) (nI (A 2)) (nI (A 6)) le ri ord siz wor = some (nI (lk A (b + 1 - A 2) (b + 1 - (b + 1 - A 2)) (b + 1) ((if b + A 2 < A 6 - 1 then b + A 2 else A 6 - 1) - b)), le', ri') := by
  have hn := hV.n
  have h2 := hV.s2
  obtain ⟨l1, g1, g2⟩ := p_fill (n := 24) (x := 0) (p := le) (by omega)
  obtain ⟨r1, g3, g4⟩ := p_fill (n := 24) (x := 0) (p := ri) (by omega)
  have t1 : (if nI 0 < nI b - nI (A 2) + nI 1 then nI b - nI (A 2) + nI 1 else nI 0) = nI (b + 1 - A 2) := by
    by_cases h3 : b + 1 ≤ A 2
    · have h4 : ¬ nI 0 < nI b - nI (A 2) + nI 1 := by
        rw [wlo, iI_n 0, iI_lt (by omega) (by omega) (by omega) (by omega)]; omega
      rw [if_neg h4, show b + 1 - A 2 = 0 by omega]
    · have h4 : nI 0 < nI b - nI (A 2) + nI 1 := by
        rw [wlo, iI_n 0, iI_lt (by omega) (by omega) (by omega) (by omega)]; omega
      rw [if_pos h4, wlo]
      exact (congrArg iI (by omega)).trans (iI_n _).symm
  have t2 : (if nI b + nI (A 2) < nI (A 6) - nI 1 then nI b + nI (A 2) else nI (A 6) - nI 1) = nI (if b + A 2 < A 6 - 1 then b + A 2 else A 6 - 1) := by
    by_cases h3 : b + A 2 < A 6 - 1
    · simp (disch := omega) only [fa_lit, fa_litL, nI_add, pk_mul, pk_sub, nI_clamp, gi_n, gb_0, gb_1, nI_ltI, nI_leI, nI_eq, lc_lt, lc_gt, lc_ge, lc_le, lc_eq, lN_i, nI_l, lN_add, lN_mul, lN_lt, lN_le, lN_eq, mI_eqR, mI_eqL, mI_ltL, mI_ltR, mI_leL, mI_leR, mI_add, ob1_some, ob2_some, ob3_some, ob4_some, ob5_some, ob6_some, ob7_some, ob8_some, if_true, if_false, if_pos, if_neg, Sum.elim_inl, Sum.elim_inr, un1, un2, un3, un4, un5, Nat.zero_add, Nat.add_zero, Nat.mul_one, Nat.mul_zero, Nat.sub_zero, pk_us, pk_uLs, xoq_l, xoq_r, nI_sle]
    · simp (disch := omega) only [fa_lit, fa_litL, nI_add, pk_mul, pk_sub, nI_clamp, gi_n, gb_0, gb_1, nI_ltI, nI_leI, nI_eq, lc_lt, lc_gt, lc_ge, lc_le, lc_eq, lN_i, nI_l, lN_add, lN_mul, lN_lt, lN_le, lN_eq, mI_eqR, mI_eqL, mI_ltL, mI_ltR, mI_leL, mI_leR, mI_add, ob1_some, ob2_some, ob3_some, ob4_some, ob5_some, ob6_some, ob7_some, ob8_some, if_true, if_false, if_pos, if_neg, Sum.elim_inl, Sum.elim_inr, un1, un2, un3, un4, un5, Nat.zero_add, Nat.add_zero, Nat.mul_one, Nat.mul_zero, Nat.sub_zero, pk_us, pk_uLs, xoq_l, xoq_r, nI_sle]
  have hu : b + 1 ≤ (if b + A 2 < A 6 - 1 then b + A 2 else A 6 - 1) ∧ (if b + A 2 < A 6 - 1 then b + A 2 else A 6 - 1) < A 6 := by split <;> omega
  obtain ⟨l2, g5, g6, -⟩ := p_tally (n3 := 24) (off := 0) (f := b + 1 - A 2) (t := b) (p := l1) (c := fun _ => 0) hV h (by omega) (by omega) (by omega) (by omega) (fun w hw => by rw [g2 _ (by omega)])
  obtain ⟨r2, g7, g8, -⟩ := p_tally (n3 := 24) (off := 0) (f := b + 1) (t := (if b + A 2 < A 6 - 1 then b + A 2 else A 6 - 1)) (p := r1) (c := fun _ => 0) hV h (by omega) (by omega) (by omega) (by omega) (fun w hw => by rw [g4 _ (by omega)])
  generalize (if b + A 2 < A 6 - 1 then b + A 2 else A 6 - 1) = u at t2 hu g7 g8
  have g9 := p_percentAlike (n0' := 24) (n2' := 24) (o1 := 0) (o2 := 0) (p0 := l2) (p2 := r2) (c := fun w => us A w (b + 1 - A 2) (b + 1 - (b + 1 - A 2))) (e := fun w => us A w (b + 1) (u + 1 - (b + 1))) (by omega) (by omega) (by omega) (by omega) (fun w hw => by rw [g6 w hw, Nat.zero_add]) (fun w hw => by rw [g8 w hw, Nat.zero_add]) (fun w _ => by
    have e1 := us_le hV (w := w) (f := b + 1 - A 2) (b + 1 - (b + 1 - A 2)) (by omega)
    have e2 := us_le hV (w := w) (f := b + 1) (u + 1 - (b + 1)) (by omega)
    omega)
  rw [lkv_cut hV (by omega) (by omega)] at g9
  refine ⟨l2, r2, ?_⟩
  have t1' : (if (0 : Int32) < nI b - nI (A 2) + (1 : Int32) then nI b - nI (A 2) + (1 : Int32) else (0 : Int32)) = nI (b + 1 - A 2) := t1
  have t2' : (if nI b + nI (A 2) < nI (A 6) - (1 : Int32) then nI b + nI (A 2) else nI (A 6) - (1 : Int32)) = nI u := t2
  unfold F_X0_windowLikeness
  rw [t1', t2']
  simp only [fa_lit]
  rw [ob1_s g1, ob1_s g3, ob1_s g5, nI_add, ob1_s g7, ob1_s g9, show u - b = u + 1 - (b + 1) by omega]
end
