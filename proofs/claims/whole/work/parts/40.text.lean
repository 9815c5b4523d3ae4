/-! ===== texts: runs of letters, digits, spaces; words and numbers by both ===== -/
theorem wb_tb (n : Nat) : (lN n).toBitVec = BitVec.ofNat 64 n := rfl
theorem wb_inj {a b : Int64} (h : a.toBitVec = b.toBitVec) : a = b := Int64.toBitVec_inj.mp h
theorem wb_c : ∀ k, k < 64 → ((nI k).toInt64 &&& 63) = lN k := by decide +kernel
theorem wb_sm : ∀ k, k < 64 → (BitVec.ofNat 64 k).smod 64 = BitVec.ofNat 64 k := by decide +kernel
theorem wb_shl (n : Nat) {k : Nat} (hk : k < 64) : lN n <<< ((nI k).toInt64 &&& 63) = lN (n * 2 ^ k) := by
  rw [wb_c k hk]
  apply wb_inj
  rw [Int64.toBitVec_shiftLeft, wb_tb, wb_tb, wb_tb, wb_sm k hk]
  apply BitVec.eq_of_toNat_eq
  rw [BitVec.shiftLeft_eq', BitVec.toNat_shiftLeft, BitVec.toNat_ofNat, BitVec.toNat_ofNat, BitVec.toNat_ofNat, Nat.mod_eq_of_lt (show k < 2 ^ 64 by omega), Nat.shiftLeft_eq, Nat.mul_mod, Nat.mod_mod, ← Nat.mul_mod]
theorem wb_or {a b : Nat} (ha : a < 2 ^ 64) (hb : b < 2 ^ 64) : lN a ||| lN b = lN (a ||| b) := by
  apply wb_inj
  rw [Int64.toBitVec_or, wb_tb, wb_tb, wb_tb]
  apply BitVec.eq_of_toNat_eq
  rw [BitVec.toNat_or, BitVec.toNat_ofNat, BitVec.toNat_ofNat, BitVec.toNat_ofNat, Nat.mod_eq_of_lt ha, Nat.mod_eq_of_lt hb, Nat.mod_eq_of_lt (Nat.or_lt_two_pow ha hb)]
theorem let_step {v t : Nat} (hv : v < 2 ^ 50) (h1 : 97 ≤ t) (h2 : t ≤ 122) : (lN v <<< ((5 : Int32).toInt64 &&& 63)) ||| ((nI t - (97 : Int32)) + (1 : Int32)).toInt64 = lN (32 * v + (t - 96)) := by
  have e1 : (nI t - (97 : Int32)) + (1 : Int32) = nI (t - 96) := by
    show nI t - nI 97 + nI 1 = _
    rw [pk_sub h1, nI_add]; congr 1; omega
  have e2 : lN v <<< ((5 : Int32).toInt64 &&& 63) = lN (v * 2 ^ 5) := wb_shl v (k := 5) (by omega)
  rw [e1, e2, nI_l (by omega), wb_or (by omega) (by omega)]
  have e3 := Nat.two_pow_add_eq_or_of_lt (i := 5) (b := t - 96) (by omega) v
  rw [show v * 2 ^ 5 = 2 ^ 5 * v by omega, ← e3]
/-- a text: n bytes -/
def TX (T : Nat → Nat) (n : Nat) (text : Nat → Int32) : Prop := n ≤ 900 ∧ ∀ i, i < n → text i = nI (T i) ∧ T i ≤ 255
def isl (T : Nat → Nat) (n j : Nat) : Bool := decide (j < n) && (decide (97 ≤ T j) && decide (T j ≤ 122))
def isd (T : Nat → Nat) (n j : Nat) : Bool := decide (j < n) && (decide (48 ≤ T j) && decide (T j ≤ 57))
def iss (T : Nat → Nat) (n j : Nat) : Bool := decide (j < n) && decide (T j = 32)
theorem isl_iff {T : Nat → Nat} {n j : Nat} : isl T n j = true ↔ j < n ∧ 97 ≤ T j ∧ T j ≤ 122 := by
  unfold isl; simp
theorem isd_iff {T : Nat → Nat} {n j : Nat} : isd T n j = true ↔ j < n ∧ 48 ≤ T j ∧ T j ≤ 57 := by
  unfold isd; simp
theorem iss_iff {T : Nat → Nat} {n j : Nat} : iss T n j = true ↔ j < n ∧ T j = 32 := by
  unfold iss; simp
/-- the end of a run from p on -/
def rn (P : Nat → Bool) (n p : Nat) : Nat := p + fi (fun i => !(P (p + i))) (n - p)
theorem rn_b {P : Nat → Bool} {n p : Nat} (h : p ≤ n) : p ≤ rn P n p ∧ rn P n p ≤ n := by
  have := fi_le (fun i => !(P (p + i))) (n - p)
  unfold rn
  omega
theorem rn_in {P : Nat → Bool} {n p j : Nat} (h1 : p ≤ j) (h2 : j < rn P n p) : P j = true := by
  unfold rn at h2
  have := fi_lt (fun i => !(P (p + i))) (n - p) (j - p) (by omega)
  rw [show p + (j - p) = j by omega] at this
  simpa using this
theorem rn_out {P : Nat → Bool} {n p : Nat} (h : p ≤ n) (hn : P n = false) : P (rn P n p) = false := by
  by_cases h1 : fi (fun i => !(P (p + i))) (n - p) < n - p
  · have := fi_at (fun i => !(P (p + i))) (n - p) h1
    unfold rn
    simpa using this
  · have h2 := fi_le (fun i => !(P (p + i))) (n - p)
    unfold rn
    rw [show p + fi (fun i => !(P (p + i))) (n - p) = n by omega]
    exact hn
theorem isl_n {T : Nat → Nat} {n : Nat} : isl T n n = false := by
  unfold isl; simp
theorem isd_n {T : Nat → Nat} {n : Nat} : isd T n n = false := by
  unfold isd; simp
theorem iss_n {T : Nat → Nat} {n : Nat} : iss T n n = false := by
  unfold iss; simp
theorem run_loop {step : (Int32 → Option Int32) → Int32 → Option Int32} {P : Nat → Bool} {n p : Nat} (hp : p ≤ n) (hn : n ≤ 900) (hPn : P n = false) (hs : ∀ j, j ≤ n → ∀ k, step k (nI j) = if P j = true then k (nI (j + 1)) else some (nI j)) : wh step wF (nI p) = some (nI (rn P n p)) := by
  have hb := rn_b (P := P) hp
  have ho := rn_out (P := P) hp hPn
  refine whf (fun j => nI (p + j)) 0 (rn P n p - p) rfl (by omega) (by omega) (fun j _ hj k => ?_) (fun k => ?_)
  · have h1 := rn_in (P := P) (n := n) (p := p) (j := p + j) (by omega) (by omega)
    show step k (nI (p + j)) = _
    rw [hs _ (by omega), if_pos h1]
    rfl
  · show step k (nI (p + (rn P n p - p))) = _
    rw [show p + (rn P n p - p) = rn P n p by omega, hs _ (by omega), if_neg (by rw [ho]; decide)]
section
variable {T : Nat → Nat} {n : Nat} {text : Nat → Int32}
theorem p_isLetter (hT : TX T n text) {j : Nat} (hj : j ≤ n) : F_X5_isLetter (nI n) (nI j) text = some (bI (isl T n j = true)) := by
  have hn := hT.1
  by_cases h1 : j < n
  · have h2 := hT.2 j h1
    have h3 := h2.1
    by_cases h4 : 97 ≤ T j
    · by_cases h5 : T j ≤ 122
      · rw [bI_1 (isl_iff.mpr ⟨h1, h4, h5⟩)]
        simp (disch := omega) only [fa_lit, fa_litL, nI_add, pk_mul, pk_sub, nI_clamp, gi_n, gb_0, gb_1, nI_ltI, nI_leI, nI_eq, lc_lt, lc_gt, lc_ge, lc_le, lc_eq, lN_i, nI_l, lN_add, lN_mul, lN_lt, lN_le, lN_eq, mI_eqR, mI_eqL, mI_ltL, mI_ltR, mI_leL, mI_leR, mI_add, ob1_some, ob2_some, ob3_some, ob4_some, ob5_some, ob6_some, ob7_some, ob8_some, if_true, if_false, if_pos, if_neg, Sum.elim_inl, Sum.elim_inr, un1, un2, un3, un4, un5, Nat.zero_add, Nat.add_zero, Nat.mul_one, Nat.mul_zero, Nat.sub_zero, pk_us, pk_uLs, xoq_l, xoq_r, nI_sle, F_X5_isLetter, h3]
      · rw [bI_0 (fun h => h5 (isl_iff.mp h).2.2)]
        simp (disch := omega) only [fa_lit, fa_litL, nI_add, pk_mul, pk_sub, nI_clamp, gi_n, gb_0, gb_1, nI_ltI, nI_leI, nI_eq, lc_lt, lc_gt, lc_ge, lc_le, lc_eq, lN_i, nI_l, lN_add, lN_mul, lN_lt, lN_le, lN_eq, mI_eqR, mI_eqL, mI_ltL, mI_ltR, mI_leL, mI_leR, mI_add, ob1_some, ob2_some, ob3_some, ob4_some, ob5_some, ob6_some, ob7_some, ob8_some, if_true, if_false, if_pos, if_neg, Sum.elim_inl, Sum.elim_inr, un1, un2, un3, un4, un5, Nat.zero_add, Nat.add_zero, Nat.mul_one, Nat.mul_zero, Nat.sub_zero, pk_us, pk_uLs, xoq_l, xoq_r, nI_sle, F_X5_isLetter, h3]
    · rw [bI_0 (fun h => h4 (isl_iff.mp h).2.1)]
      simp (disch := omega) only [fa_lit, fa_litL, nI_add, pk_mul, pk_sub, nI_clamp, gi_n, gb_0, gb_1, nI_ltI, nI_leI, nI_eq, lc_lt, lc_gt, lc_ge, lc_le, lc_eq, lN_i, nI_l, lN_add, lN_mul, lN_lt, lN_le, lN_eq, mI_eqR, mI_eqL, mI_ltL, mI_ltR, mI_leL, mI_leR, mI_add, ob1_some, ob2_some, ob3_some, ob4_some, ob5_some, ob6_some, ob7_some, ob8_some, if_true, if_false, if_pos, if_neg, Sum.elim_inl, Sum.elim_inr, un1, un2, un3, un4, un5, Nat.zero_add, Nat.add_zero, Nat.mul_one, Nat.mul_zero, Nat.sub_zero, pk_us, pk_uLs, xoq_l, xoq_r, nI_sle, F_X5_isLetter, h3]
  · rw [bI_0 (fun h => h1 (isl_iff.mp h).1)]
    simp (disch := omega) only [fa_lit, fa_litL, nI_add, pk_mul, pk_sub, nI_clamp, gi_n, gb_0, gb_1, nI_ltI, nI_leI, nI_eq, lc_lt, lc_gt, lc_ge, lc_le, lc_eq, lN_i, nI_l, lN_add, lN_mul, lN_lt, lN_le, lN_eq, mI_eqR, mI_eqL, mI_ltL, mI_ltR, mI_leL, mI_leR, mI_add, ob1_some, ob2_some, ob3_some, ob4_some, ob5_some, ob6_some, ob7_some, ob8_some, if_true, if_false, if_pos, if_neg, Sum.elim_inl, Sum.elim_inr, un1, un2, un3, un4, un5, Nat.zero_add, Nat.add_zero, Nat.mul_one, Nat.mul_zero, Nat.sub_zero, pk_us, pk_uLs, xoq_l, xoq_r, nI_sle, F_X5_isLetter]
theorem p_isDigit (hT : TX T n text) {j : Nat} (hj : j ≤ n) : F_X5_isDigit (nI n) (nI j) text = some (bI (isd T n j = true)) := by
  have hn := hT.1
  by_cases h1 : j < n
  · have h2 := hT.2 j h1
    have h3 := h2.1
    by_cases h4 : 48 ≤ T j
    · by_cases h5 : T j ≤ 57
      · rw [bI_1 (isd_iff.mpr ⟨h1, h4, h5⟩)]
        simp (disch := omega) only [fa_lit, fa_litL, nI_add, pk_mul, pk_sub, nI_clamp, gi_n, gb_0, gb_1, nI_ltI, nI_leI, nI_eq, lc_lt, lc_gt, lc_ge, lc_le, lc_eq, lN_i, nI_l, lN_add, lN_mul, lN_lt, lN_le, lN_eq, mI_eqR, mI_eqL, mI_ltL, mI_ltR, mI_leL, mI_leR, mI_add, ob1_some, ob2_some, ob3_some, ob4_some, ob5_some, ob6_some, ob7_some, ob8_some, if_true, if_false, if_pos, if_neg, Sum.elim_inl, Sum.elim_inr, un1, un2, un3, un4, un5, Nat.zero_add, Nat.add_zero, Nat.mul_one, Nat.mul_zero, Nat.sub_zero, pk_us, pk_uLs, xoq_l, xoq_r, nI_sle, F_X5_isDigit, h3]
      · rw [bI_0 (fun h => h5 (isd_iff.mp h).2.2)]
        simp (disch := omega) only [fa_lit, fa_litL, nI_add, pk_mul, pk_sub, nI_clamp, gi_n, gb_0, gb_1, nI_ltI, nI_leI, nI_eq, lc_lt, lc_gt, lc_ge, lc_le, lc_eq, lN_i, nI_l, lN_add, lN_mul, lN_lt, lN_le, lN_eq, mI_eqR, mI_eqL, mI_ltL, mI_ltR, mI_leL, mI_leR, mI_add, ob1_some, ob2_some, ob3_some, ob4_some, ob5_some, ob6_some, ob7_some, ob8_some, if_true, if_false, if_pos, if_neg, Sum.elim_inl, Sum.elim_inr, un1, un2, un3, un4, un5, Nat.zero_add, Nat.add_zero, Nat.mul_one, Nat.mul_zero, Nat.sub_zero, pk_us, pk_uLs, xoq_l, xoq_r, nI_sle, F_X5_isDigit, h3]
    · rw [bI_0 (fun h => h4 (isd_iff.mp h).2.1)]
      simp (disch := omega) only [fa_lit, fa_litL, nI_add, pk_mul, pk_sub, nI_clamp, gi_n, gb_0, gb_1, nI_ltI, nI_leI, nI_eq, lc_lt, lc_gt, lc_ge, lc_le, lc_eq, lN_i, nI_l, lN_add, lN_mul, lN_lt, lN_le, lN_eq, mI_eqR, mI_eqL, mI_ltL, mI_ltR, mI_leL, mI_leR, mI_add, ob1_some, ob2_some, ob3_some, ob4_some, ob5_some, ob6_some, ob7_some, ob8_some, if_true, if_false, if_pos, if_neg, Sum.elim_inl, Sum.elim_inr, un1, un2, un3, un4, un5, Nat.zero_add, Nat.add_zero, Nat.mul_one, Nat.mul_zero, Nat.sub_zero, pk_us, pk_uLs, xoq_l, xoq_r, nI_sle, F_X5_isDigit, h3]
  · rw [bI_0 (fun h => h1 (isd_iff.mp h).1)]
    simp (disch := omega) only [fa_lit, fa_litL, nI_add, pk_mul, pk_sub, nI_clamp, gi_n, gb_0, gb_1, nI_ltI, nI_leI, nI_eq, lc_lt, lc_gt, lc_ge, lc_le, lc_eq, lN_i, nI_l, lN_add, lN_mul, lN_lt, lN_le, lN_eq, mI_eqR, mI_eqL, mI_ltL, mI_ltR, mI_leL, mI_leR, mI_add, ob1_some, ob2_some, ob3_some, ob4_some, ob5_some, ob6_some, ob7_some, ob8_some, if_true, if_false, if_pos, if_neg, Sum.elim_inl, Sum.elim_inr, un1, un2, un3, un4, un5, Nat.zero_add, Nat.add_zero, Nat.mul_one, Nat.mul_zero, Nat.sub_zero, pk_us, pk_uLs, xoq_l, xoq_r, nI_sle, F_X5_isDigit]
theorem p_skipSpaces (hT : TX T n text) {p : Nat} (hp : p ≤ n) : F_X5_skipSpaces (nI n) (nI p) text = some (nI (rn (iss T n) n p)) := by
  have hn := hT.1
  have key : wh (fun k q => S_X5_skipSpaces_0 (nI n) text k q) wF (nI p) = some (nI (rn (iss T n) n p)) := by
    refine run_loop hp hn iss_n (fun j hj k => ?_)
    by_cases h1 : j < n
    · have h2 := hT.2 j h1
      have h3 := h2.1
      by_cases h4 : T j = 32
      · rw [if_pos (iss_iff.mpr ⟨h1, h4⟩)]
        simp (disch := omega) only [fa_lit, fa_litL, nI_add, pk_mul, pk_sub, nI_clamp, gi_n, gb_0, gb_1, nI_ltI, nI_leI, nI_eq, lc_lt, lc_gt, lc_ge, lc_le, lc_eq, lN_i, nI_l, lN_add, lN_mul, lN_lt, lN_le, lN_eq, mI_eqR, mI_eqL, mI_ltL, mI_ltR, mI_leL, mI_leR, mI_add, ob1_some, ob2_some, ob3_some, ob4_some, ob5_some, ob6_some, ob7_some, ob8_some, if_true, if_false, if_pos, if_neg, Sum.elim_inl, Sum.elim_inr, un1, un2, un3, un4, un5, Nat.zero_add, Nat.add_zero, Nat.mul_one, Nat.mul_zero, Nat.sub_zero, pk_us, pk_uLs, xoq_l, xoq_r, nI_sle, S_X5_skipSpaces_0, h3]
      · rw [if_neg (fun h => h4 (iss_iff.mp h).2)]
        simp (disch := omega) only [fa_lit, fa_litL, nI_add, pk_mul, pk_sub, nI_clamp, gi_n, gb_0, gb_1, nI_ltI, nI_leI, nI_eq, lc_lt, lc_gt, lc_ge, lc_le, lc_eq, lN_i, nI_l, lN_add, lN_mul, lN_lt, lN_le, lN_eq, mI_eqR, mI_eqL, mI_ltL, mI_ltR, mI_leL, mI_leR, mI_add, ob1_some, ob2_some, ob3_some, ob4_some, ob5_some, ob6_some, ob7_some, ob8_some, if_true, if_false, if_pos, if_neg, Sum.elim_inl, Sum.elim_inr, un1, un2, un3, un4, un5, Nat.zero_add, Nat.add_zero, Nat.mul_one, Nat.mul_zero, Nat.sub_zero, pk_us, pk_uLs, xoq_l, xoq_r, nI_sle, S_X5_skipSpaces_0, h3]
    · rw [if_neg (fun h => h1 (iss_iff.mp h).1)]
      simp (disch := omega) only [fa_lit, fa_litL, nI_add, pk_mul, pk_sub, nI_clamp, gi_n, gb_0, gb_1, nI_ltI, nI_leI, nI_eq, lc_lt, lc_gt, lc_ge, lc_le, lc_eq, lN_i, nI_l, lN_add, lN_mul, lN_lt, lN_le, lN_eq, mI_eqR, mI_eqL, mI_ltL, mI_ltR, mI_leL, mI_leR, mI_add, ob1_some, ob2_some, ob3_some, ob4_some, ob5_some, ob6_some, ob7_some, ob8_some, if_true, if_false, if_pos, if_neg, Sum.elim_inl, Sum.elim_inr, un1, un2, un3, un4, un5, Nat.zero_add, Nat.add_zero, Nat.mul_one, Nat.mul_zero, Nat.sub_zero, pk_us, pk_uLs, xoq_l, xoq_r, nI_sle, S_X5_skipSpaces_0]
  unfold F_X5_skipSpaces
  rw [key]; rfl
/-- the value of a word, as the class sums it up -/
def wac (T : Nat → Nat) (p : Nat) : Nat → Int64
  | 0 => 0
  | d + 1 => (wac T p d <<< ((5 : Int32).toInt64 &&& 63)) ||| ((nI (T (p + d)) - (97 : Int32)) + (1 : Int32)).toInt64
def wvl (T : Nat → Nat) (p : Nat) : Nat → Nat
  | 0 => 0
  | d + 1 => 32 * wvl T p d + (T (p + d) - 96)
theorem wvl_s (T : Nat → Nat) (p d : Nat) : wvl T p (d + 1) = 32 * wvl T p d + (T (p + d) - 96) := rfl
theorem wac_s (T : Nat → Nat) (p d : Nat) : wac T p (d + 1) = (wac T p d <<< ((5 : Int32).toInt64 &&& 63)) ||| ((nI (T (p + d)) - (97 : Int32)) + (1 : Int32)).toInt64 := rfl
theorem wvl_lt {p : Nat} : ∀ d, (∀ j, p ≤ j → j < p + d → 97 ≤ T j ∧ T j ≤ 122) → wvl T p d < 32 ^ d := by
  intro d
  induction d with
  | zero => intro _; exact (by decide : 0 < 32 ^ 0)
  | succ d ih =>
    intro h
    have h1 := ih (fun j h2 h3 => h j h2 (by omega))
    have h2 := h (p + d) (by omega) (by omega)
    rw [wvl_s, Nat.pow_succ]
    omega
theorem wac_eq {p : Nat} : ∀ d, d ≤ 8 → (∀ j, p ≤ j → j < p + d → 97 ≤ T j ∧ T j ≤ 122) → wac T p d = lN (wvl T p d) := by
  intro d
  induction d with
  | zero => intro _ _; rfl
  | succ d ih =>
    intro hd h
    have h1 := ih (by omega) (fun j h2 h3 => h j h2 (by omega))
    have h2 := h (p + d) (by omega) (by omega)
    have h3 := wvl_lt d (fun j h2 h3 => h j h2 (by omega))
    have h4 : 32 ^ d ≤ 32 ^ 8 := Nat.pow_le_pow_right (by omega) (by omega)
    rw [wac_s, wvl_s, h1]
    exact let_step (by omega) h2.1 h2.2
/-- the word at p: 0 if there is none, or one that is too long -/
def wrd (T : Nat → Nat) (n p : Nat) : Nat := if rn (isl T n) n p - p ≤ 8 then wvl T p (rn (isl T n) n p - p) else 0
theorem p_readWord (hT : TX T n text) {p : Nat} (hp : p ≤ n) : F_X5_readWord (nI n) (nI p) text = some (lN (wrd T n p), nI (rn (isl T n) n p)) := by
  have hn := hT.1
  have hb := rn_b (P := isl T n) hp
  have ho := rn_out (P := isl T n) hp isl_n
  have key : wh (fun k q => S_X5_readWord_7 (nI p) (nI n) text k q.1 q.2) wF (0, nI p) = some (wac T p (rn (isl T n) n p - p), nI (rn (isl T n) n p)) := by
    refine whf (fun j => (wac T p j, nI (p + j))) 0 (rn (isl T n) n p - p) rfl (by omega) (by omega) (fun j _ hj k => ?_) (fun k => ?_)
    · have h1 := rn_in (P := isl T n) (n := n) (p := p) (j := p + j) (by omega) (by omega)
      have h2 := p_isLetter hT (j := p + j) (by omega)
      have h3 := (hT.2 (p + j) (isl_iff.mp h1).1).1
      rw [bI_1 h1] at h2
      show S_X5_readWord_7 (nI p) (nI n) text k (wac T p j) (nI (p + j)) = k (wac T p (j + 1), nI (p + (j + 1)))
      unfold S_X5_readWord_7
      rw [if_neg (fun h => by have := (nI_leI (by omega) (by omega)).mp h; omega), h2, ob1_some, if_neg (by decide), gi_n (by omega) (by omega), nI_clamp (by omega), h3, wac_s, show nI (p + j) + (1 : Int32) = nI (p + (j + 1)) from nI_add (p + j) 1]
    · show S_X5_readWord_7 (nI p) (nI n) text k (wac T p (rn (isl T n) n p - p)) (nI (p + (rn (isl T n) n p - p))) = _
      rw [show p + (rn (isl T n) n p - p) = rn (isl T n) n p by omega]
      have h2 := p_isLetter hT (j := rn (isl T n) n p) (by omega)
      rw [bI_0 (by rw [ho]; decide)] at h2
      unfold S_X5_readWord_7
      by_cases h1 : n ≤ rn (isl T n) n p
      · rw [if_pos (nI_le h1 (by omega))]
      · rw [if_neg (fun h => by have := (nI_leI (by omega) (by omega)).mp h; omega), h2, ob1_some]
        exact if_pos rfl
  unfold F_X5_readWord F_X5_readWord_b58 wrd
  rw [key, ob2_some]
  by_cases h1 : rn (isl T n) n p - p ≤ 8
  · have h2 := wac_eq (T := T) (p := p) (rn (isl T n) n p - p) h1 (fun j h3 h4 => (isl_iff.mp (rn_in (P := isl T n) (n := n) h3 (by omega))).2)
    rw [if_pos h1, pk_sub (by omega), if_neg (fun h => by have := (nI_ltI (a := 8) (by omega) (by omega)).mp h; omega), h2]
  · rw [if_neg h1, pk_sub (by omega)]
    exact if_pos (nI_lt (a := 8) (by omega) (by omega))
/-! numbers -/
def cnv (T : Nat → Nat) (p : Nat) : Nat → Nat
  | 0 => 0
  | d + 1 => if cnv T p d * 10 + T (p + d) - 48 < 100000 then cnv T p d * 10 + T (p + d) - 48 else 100000
def rnv (T : Nat → Nat) (p : Nat) : Nat → Nat
  | 0 => 0
  | d + 1 => if rnv T p d < 100000 then 10 * rnv T p d + (T (p + d) - 48) else rnv T p d
theorem cnv_s (T : Nat → Nat) (p d : Nat) : cnv T p (d + 1) = if cnv T p d * 10 + T (p + d) - 48 < 100000 then cnv T p d * 10 + T (p + d) - 48 else 100000 := rfl
theorem rnv_s (T : Nat → Nat) (p d : Nat) : rnv T p (d + 1) = if rnv T p d < 100000 then 10 * rnv T p d + (T (p + d) - 48) else rnv T p d := rfl
theorem nv_rel {p : Nat} : ∀ d, (∀ j, p ≤ j → j < p + d → 48 ≤ T j ∧ T j ≤ 57) → cnv T p d ≤ 100000 ∧ rnv T p d ≤ 1000000 ∧ (cnv T p d < 100000 → rnv T p d = cnv T p d) ∧ (rnv T p d < 100000 → rnv T p d = cnv T p d) := by
  intro d
  induction d with
  | zero => intro _; exact ⟨(by decide : 0 ≤ 100000), (by decide : 0 ≤ 1000000), fun _ => rfl, fun _ => rfl⟩
  | succ d ih =>
    intro h
    have h1 := ih (fun j h2 h3 => h j h2 (by omega))
    have h2 := h (p + d) (by omega) (by omega)
    rw [cnv_s, rnv_s]
    split <;> split <;> omega
/-- the number at q -/
def nbr (T : Nat → Nat) (n q : Nat) : Nat := cnv T q (rn (isd T n) n q - q)
theorem p_digits (hT : TX T n text) {q : Nat} {x1 x2 ec ea : Int32} (hq : q ≤ n) : wh (fun k s => S_X5_readNumber_12 x1 x2 (nI q) ec ea (nI n) text k s.1 s.2) wF (nI 0, nI q) = some (nI (nbr T n q), nI (rn (isd T n) n q)) := by
  have hn := hT.1
  have hb := rn_b (P := isd T n) hq
  have ho := rn_out (P := isd T n) hq isd_n
  refine whf (fun j => (nI (cnv T q j), nI (q + j))) 0 (rn (isd T n) n q - q) rfl (by omega) (by omega) (fun j _ hj k => ?_) (fun k => ?_)
  · have h1 := rn_in (P := isd T n) (n := n) (p := q) (j := q + j) (by omega) (by omega)
    have h2 := p_isDigit hT (j := q + j) (by omega)
    have h3 := (hT.2 (q + j) (isd_iff.mp h1).1).1
    have h5 := (isd_iff.mp h1).2
    have h6 := (nv_rel (T := T) (p := q) j (fun i h7 h8 => (isd_iff.mp (rn_in (P := isd T n) (n := n) (p := q) h7 (by omega))).2)).1
    rw [bI_1 h1] at h2
    show S_X5_readNumber_12 x1 x2 (nI q) ec ea (nI n) text k (nI (cnv T q j)) (nI (q + j)) = k (nI (cnv T q (j + 1)), nI (q + (j + 1)))
    rw [cnv_s]
    by_cases h9 : cnv T q j * 10 + T (q + j) - 48 < 100000
    · rw [if_pos h9]
      simp (disch := omega) only [fa_lit, fa_litL, nI_add, pk_mul, pk_sub, nI_clamp, gi_n, gb_0, gb_1, nI_ltI, nI_leI, nI_eq, lc_lt, lc_gt, lc_ge, lc_le, lc_eq, lN_i, nI_l, lN_add, lN_mul, lN_lt, lN_le, lN_eq, mI_eqR, mI_eqL, mI_ltL, mI_ltR, mI_leL, mI_leR, mI_add, ob1_some, ob2_some, ob3_some, ob4_some, ob5_some, ob6_some, ob7_some, ob8_some, if_true, if_false, if_pos, if_neg, Sum.elim_inl, Sum.elim_inr, un1, un2, un3, un4, un5, Nat.zero_add, Nat.add_zero, Nat.mul_one, Nat.mul_zero, Nat.sub_zero, pk_us, pk_uLs, xoq_l, xoq_r, nI_sle, S_X5_readNumber_12, h2, h3]
      rfl
    · rw [if_neg h9]
      simp (disch := omega) only [fa_lit, fa_litL, nI_add, pk_mul, pk_sub, nI_clamp, gi_n, gb_0, gb_1, nI_ltI, nI_leI, nI_eq, lc_lt, lc_gt, lc_ge, lc_le, lc_eq, lN_i, nI_l, lN_add, lN_mul, lN_lt, lN_le, lN_eq, mI_eqR, mI_eqL, mI_ltL, mI_ltR, mI_leL, mI_leR, mI_add, ob1_some, ob2_some, ob3_some, ob4_some, ob5_some, ob6_some, ob7_some, ob8_some, if_true, if_false, if_pos, if_neg, Sum.elim_inl, Sum.elim_inr, un1, un2, un3, un4, un5, Nat.zero_add, Nat.add_zero, Nat.mul_one, Nat.mul_zero, Nat.sub_zero, pk_us, pk_uLs, xoq_l, xoq_r, nI_sle, S_X5_readNumber_12, h2, h3]
      rfl
  · show S_X5_readNumber_12 x1 x2 (nI q) ec ea (nI n) text k (nI (cnv T q (rn (isd T n) n q - q))) (nI (q + (rn (isd T n) n q - q))) = _
    rw [show q + (rn (isd T n) n q - q) = rn (isd T n) n q by omega]
    have h2 := p_isDigit hT (j := rn (isd T n) n q) (by omega)
    rw [bI_0 (by rw [ho]; decide)] at h2
    by_cases h1 : n ≤ rn (isd T n) n q
    · simp (disch := omega) only [fa_lit, fa_litL, nI_add, pk_mul, pk_sub, nI_clamp, gi_n, gb_0, gb_1, nI_ltI, nI_leI, nI_eq, lc_lt, lc_gt, lc_ge, lc_le, lc_eq, lN_i, nI_l, lN_add, lN_mul, lN_lt, lN_le, lN_eq, mI_eqR, mI_eqL, mI_ltL, mI_ltR, mI_leL, mI_leR, mI_add, ob1_some, ob2_some, ob3_some, ob4_some, ob5_some, ob6_some, ob7_some, ob8_some, if_true, if_false, if_pos, if_neg, Sum.elim_inl, Sum.elim_inr, un1, un2, un3, un4, un5, Nat.zero_add, Nat.add_zero, Nat.mul_one, Nat.mul_zero, Nat.sub_zero, pk_us, pk_uLs, xoq_l, xoq_r, nI_sle, S_X5_readNumber_12]
      rfl
    · simp (disch := omega) only [fa_lit, fa_litL, nI_add, pk_mul, pk_sub, nI_clamp, gi_n, gb_0, gb_1, nI_ltI, nI_leI, nI_eq, lc_lt, lc_gt, lc_ge, lc_le, lc_eq, lN_i, nI_l, lN_add, lN_mul, lN_lt, lN_le, lN_eq, mI_eqR, mI_eqL, mI_ltL, mI_ltR, mI_leL, mI_leR, mI_add, ob1_some, ob2_some, ob3_some, ob4_some, ob5_some, ob6_some, ob7_some, ob8_some, if_true, if_false, if_pos, if_neg, Sum.elim_inl, Sum.elim_inr, un1, un2, un3, un4, un5, Nat.zero_add, Nat.add_zero, Nat.mul_one, Nat.mul_zero, Nat.sub_zero, pk_us, pk_uLs, xoq_l, xoq_r, nI_sle, S_X5_readNumber_12, h2]
      rfl
/-- errors: the first one counts -/
def ER (o : Option (Nat × Nat)) (ec ea : Int32) : Prop :=
  match o with
  | none => ec = nI 0 ∧ ea = -nI 1
  | some x => 2 ≤ x.1 ∧ x.1 ≤ 4 ∧ x.2 ≤ 900 ∧ ec = -nI x.1 ∧ ea = nI x.2
def erj (o : Option (Nat × Nat)) (c p : Nat) : Option (Nat × Nat) :=
  match o with
  | some x => some x
  | none => if c = 0 then none else some (c, p)
theorem ng_0 : ∀ c, c < 5 → 2 ≤ c → ¬ -nI c = nI 0 := by decide
theorem p_fail {o : Option (Nat × Nat)} {ec ea : Int32} (h : ER o ec ea) {c p : Nat} (h1 : 2 ≤ c) (h2 : c ≤ 4) (h3 : p ≤ 900) : ∃ ec' ea', F_X5_fail (-nI c) (nI p) ec ea = some (ec', ea') ∧ ER (erj o c p) ec' ea' := by
  unfold F_X5_fail
  cases o with
  | none =>
    obtain ⟨e1, e2⟩ := h
    subst e1
    rw [if_pos (show nI 0 = (0 : Int32) from rfl)]
    refine ⟨_, _, rfl, ?_⟩
    unfold erj
    dsimp only
    rw [if_neg (by omega)]
    exact ⟨h1, h2, h3, rfl, rfl⟩
  | some x =>
    have e := h.2.2.2.1
    subst e
    rw [if_neg (show ¬ -nI x.1 = (0 : Int32) from ng_0 x.1 (by have := h.2.1; omega) h.1)]
    exact ⟨_, _, rfl, h⟩
/-- what a number at p is: 0 right, 2 none, 3 out of its range -/
def nrc (T : Nat → Nat) (n lo hi p : Nat) : Nat := if rn (isd T n) n (rn (iss T n) n p) = rn (iss T n) n p then 2 else if nbr T n (rn (iss T n) n p) < lo ∨ hi < nbr T n (rn (iss T n) n p) then 3 else 0
def nvl (T : Nat → Nat) (n lo hi p : Nat) : Nat := if nrc T n lo hi p = 0 then nbr T n (rn (iss T n) n p) else lo
def nend (T : Nat → Nat) (n p : Nat) : Nat := rn (isd T n) n (rn (iss T n) n p)
theorem nend_b {p : Nat} (h : p ≤ n) : p ≤ nend T n p ∧ nend T n p ≤ n := by
  have h1 := rn_b (P := iss T n) h
  have h2 := rn_b (P := isd T n) h1.2
  unfold nend
  omega
theorem nvl_b {lo hi p : Nat} (h : lo ≤ hi) : lo ≤ nvl T n lo hi p ∧ nvl T n lo hi p ≤ hi := by
  unfold nvl nrc
  by_cases h1 : rn (isd T n) n (rn (iss T n) n p) = rn (iss T n) n p
  · rw [if_pos h1, if_neg (by omega)]; omega
  · rw [if_neg h1]
    by_cases h2 : nbr T n (rn (iss T n) n p) < lo ∨ hi < nbr T n (rn (iss T n) n p)
    · rw [if_pos h2, if_neg (by omega)]; omega
    · rw [if_neg h2, if_pos rfl]; omega
theorem p_readNumber (hT : TX T n text) {p lo hi : Nat} {o : Option (Nat × Nat)} {ec ea : Int32} (hE : ER o ec ea) (hp : p ≤ n) (hlo : lo ≤ hi) (hhi : hi ≤ 9999) : ∃ ec' ea', F_X5_readNumber (nI lo) (nI hi) ec ea (nI n) (nI p) text = some (nI (nvl T n lo hi p), ec', ea', nI (nend T n p)) ∧ ER (erj o (nrc T n lo hi p) (rn (iss T n) n p)) ec' ea' := by
  have hn := hT.1
  have h1 := rn_b (P := iss T n) hp
  obtain ⟨q, hq⟩ : ∃ q, q = rn (iss T n) n p := ⟨_, rfl⟩
  have hd := p_digits (x1 := nI lo) (x2 := nI hi) (ec := ec) (ea := ea) hT (q := q) (by omega)
  have h2 := rn_b (P := isd T n) (n := n) (p := q) (by omega)
  have h3 := (nv_rel (T := T) (p := q) (rn (isd T n) n q - q) (fun i h7 h8 => (isd_iff.mp (rn_in (P := isd T n) (n := n) (p := q) h7 (by omega))).2)).1
  have h3 : nbr T n q ≤ 100000 := h3
  unfold F_X5_readNumber nvl nrc nend
  simp only [fa_lit]
  rw [p_skipSpaces hT hp, ob1_some, ← hq, hd, ob2_some]
  unfold F_X5_readNumber_b68
  simp only [fa_lit]
  by_cases c1 : rn (isd T n) n q = q
  · obtain ⟨ec', ea', g1, g2⟩ := p_fail hE (c := 2) (p := q) (by omega) (by omega) (by omega)
    refine ⟨ec', ea', ?_, ?_⟩
    · rw [if_pos (congrArg nI c1), g1, ob2_some, if_pos c1, if_neg (by omega)]
    · rw [if_pos c1]; exact g2
  · rw [if_neg (fun h => c1 ((nI_eq (by omega) (by omega)).mp h)), if_neg c1]
    obtain ⟨ec', ea', g1, g2⟩ := p_fail hE (c := 3) (p := q) (by omega) (by omega) (by omega)
    have g3 : F_X5_readNumber_b97 (nI lo) (nI q) ec ea (nI (rn (isd T n) n q)) = some (nI lo, ec', ea', nI (rn (isd T n) n q)) := by
      unfold F_X5_readNumber_b97
      simp only [fa_lit]
      rw [g1, ob2_some]
    by_cases c2 : nbr T n q < lo
    · refine ⟨ec', ea', ?_, ?_⟩
      · rw [if_pos (nI_lt c2 (by omega)), g3, if_pos (Or.inl c2), if_neg (by omega)]
      · rw [if_pos (Or.inl c2)]; exact g2
    · rw [if_neg (fun h => c2 ((nI_ltI (by omega) (by omega)).mp h))]
      by_cases c3 : nbr T n q ≤ hi
      · refine ⟨ec, ea, ?_, ?_⟩
        · rw [if_pos (nI_le c3 (by omega)), if_neg (show ¬ (nbr T n q < lo ∨ hi < nbr T n q) by omega), if_pos rfl]
        · rw [if_neg (by omega)]
          unfold erj
          cases o with
          | none => exact hE
          | some x => exact hE
      · refine ⟨ec', ea', ?_, ?_⟩
        · rw [if_neg (fun h => c3 ((nI_leI (by omega) (by omega)).mp h)), g3, if_pos (Or.inr (by omega)), if_neg (by omega)]
        · rw [if_pos (Or.inr (by omega))]; exact g2
end
