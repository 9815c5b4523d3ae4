/-! ===== a page: names ===== -/
theorem lT {n : Nat} (h : n < 2 ^ 63) : (lN n).toInt = (n : Int) := by
  have h1 : (lN n).toBitVec.toNat = n := by rw [wb_tb, BitVec.toNat_ofNat, Nat.mod_eq_of_lt (by omega)]
  show (lN n).toBitVec.toInt = _
  rw [BitVec.toInt_eq_toNat_of_lt (by rw [h1]; omega), h1]
theorem lq_lt {a b : Nat} (ha : a < 2 ^ 63) (hb : b < 2 ^ 63) : lN a < lN b ↔ a < b := by
  rw [Int64.lt_iff_toInt_lt, lT ha, lT hb]; omega
theorem ld32 {v : Nat} (h : v < 2 ^ 63) : lN v / (32 : Int64) = lN (v / 32) := by
  apply Int64.toInt_inj.mp
  rw [Int64.toInt_div_of_ne_right _ _ (by decide), lT h, lT (by omega)]
  show Int.tdiv (v : Int) ((32 : Nat) : Int) = _
  rw [← Int.ofNat_tdiv]
theorem lm32 {v : Nat} (h : v < 2 ^ 63) : ((lN v - lN v / (32 : Int64) * (32 : Int64)).toInt32) + (96 : Int32) = nI (96 + v % 32) := by
  rw [ld32 h, show (32 : Int64) = lN 32 from rfl, lN_mul, lN_sub (by omega), lN_i, show (96 : Int32) = nI 96 from rfl, nI_add]
  congr 1
  omega
def ltr : Nat → Nat → List Nat
  | 0, _ => []
  | f + 1, v => if v < 32 then [96 + v % 32] else ltr f (v / 32) ++ [96 + v % 32]
theorem ltr_s (f v : Nat) : ltr (f + 1) v = if v < 32 then [96 + v % 32] else ltr f (v / 32) ++ [96 + v % 32] := rfl
theorem ltr_len : ∀ f v, (ltr f v).length ≤ f := by
  intro f
  induction f with
  | zero => intro x; exact Nat.le_refl _
  | succ f ih =>
    intro x
    rw [ltr_s]
    by_cases c : x < 32
    · rw [if_pos c]; show 1 ≤ f + 1; omega
    · rw [if_neg c, List.length_append]
      have := ih (x / 32)
      show _ + 1 ≤ f + 1
      omega
theorem ltr_ok : ∀ d f v, nmOK d v → (ltr f v).length ≤ d := by
  intro d
  induction d with
  | zero => intro f v h; exact absurd h id
  | succ d ih =>
    intro f v h
    cases f with
    | zero => exact Nat.zero_le _
    | succ f =>
      rw [ltr_s]
      by_cases c : v < 32
      · rw [if_pos c]; show 1 ≤ d + 1; omega
      · rw [if_neg c, List.length_append]
        rcases h.2 with h2 | h2
        · omega
        · have := ih f _ h2
          show _ + 1 ≤ d + 1
          omega
theorem q_sn17 {v : Nat} (hv : v < 2 ^ 63) {L : List Nat} {len : Int32} {by_ : Nat → Int32} (h : PG L len by_) (hl : L.length < 1200) : ∃ by', F_X11_saysName_b17 (lN v) len by_ = some (nI (L.length + 1), by') ∧ PG (L ++ [96 + v % 32]) (nI (L.length + 1)) by' := by
  unfold F_X11_saysName_b17 gzj
  obtain ⟨by', f1, f2⟩ := q_says h hl (c := 96 + v % 32)
  rw [if_neg (by decide), lm32 hv, f1, ob2_some]
  exact ⟨_, rfl, f2⟩
theorem q_saysName : ∀ f v, v < 2 ^ 63 → v < 32 ^ f → 0 < f → ∀ {L : List Nat} {len : Int32} {by_ : Nat → Int32}, PG L len by_ → L.length + f < 1200 → ∃ by', F_X11_saysName f (lN v) len by_ = some (nI (L ++ ltr f v).length, by') ∧ PG (L ++ ltr f v) (nI (L ++ ltr f v).length) by' := by
  intro f
  induction f with
  | zero =>
    intro x _ _ h
    exact absurd h (by omega)
  | succ f ih =>
    intro x hx h _ L len by_ hP hl
    unfold F_X11_saysName
    rw [ltr_s]
    have hc : (lg_cmp (lN x) (32 : Int64) < 0) ↔ x < 32 := (lg_cmp_lt _ _).trans (lq_lt (b := 32) hx (by omega))
    by_cases c : x < 32
    · rw [if_pos (hc.mpr c), if_pos c]
      obtain ⟨by', f1, f2⟩ := q_sn17 hx hP (by omega)
      have e : (L ++ [96 + x % 32]).length = L.length + 1 := by rw [List.length_append]; rfl
      rw [e]
      exact ⟨_, f1, f2⟩
    · rw [if_neg (fun h => c (hc.mp h)), if_neg c]
      unfold gzj
      rw [if_neg (by decide), ld32 hx]
      obtain ⟨by1, f1, f2⟩ := ih (x / 32) (by omega) (by rw [Nat.pow_succ] at h; omega) (by
        rcases Nat.eq_zero_or_pos f with h0 | h0
        · subst h0; have e : 32 ^ (0 + 1) = 32 := rfl; rw [e] at h; omega
        · exact h0) hP (by omega)
      rw [f1, ob2_some]
      have hd := ltr_len f (x / 32)
      have hl2 : (L ++ ltr f (x / 32)).length < 1200 := by rw [List.length_append]; omega
      obtain ⟨by', f3, f4⟩ := q_sn17 hx f2 hl2
      have e : (L ++ (ltr f (x / 32) ++ [96 + x % 32])).length = (L ++ ltr f (x / 32)).length + 1 := by rw [← List.append_assoc, List.length_append (as := L ++ ltr f (x / 32))]; rfl
      rw [e, ← List.append_assoc]
      exact ⟨_, f3, f4⟩
/-- the class's letters -/
def lt1 (d : Nat) : List Nat := if d = 0 then [] else [96 + d]
def cl (v : Nat) : Nat → List Nat
  | 0 => lt1 (v / 32 ^ 0 % 32)
  | k + 1 => lt1 (v / 32 ^ (k + 1) % 32) ++ cl v k
theorem cl_app {v : Nat} : ∀ k, cl v (k + 1) = cl (v / 32) k ++ lt1 (v % 32) := by
  intro k
  induction k with
  | zero =>
    show lt1 (v / 32 ^ 1 % 32) ++ lt1 (v / 1 % 32) = lt1 (v / 32 / 1 % 32) ++ lt1 (v % 32)
    rw [Nat.div_one, Nat.div_one]
  | succ k ih =>
    show lt1 (v / 32 ^ (k + 1 + 1) % 32) ++ cl v (k + 1) = _
    rw [ih]
    show _ = (lt1 (v / 32 / 32 ^ (k + 1) % 32) ++ cl (v / 32) k) ++ lt1 (v % 32)
    rw [Nat.div_div_eq_div_mul, Nat.pow_succ 32 (k + 1), Nat.mul_comm 32, List.append_assoc]
theorem cl_ltr : ∀ k f v, k < f → v = 0 ∨ nmOK (k + 1) v → cl v k = if v = 0 then [] else ltr f v := by
  intro k
  induction k with
  | zero =>
    intro f v hf h
    obtain ⟨f, rfl⟩ : ∃ f', f = f' + 1 := ⟨f - 1, by omega⟩
    show lt1 (v / 1 % 32) = _
    rw [Nat.div_one]
    unfold lt1
    rcases h with h | h
    · subst h; rw [if_pos rfl, if_pos rfl]
    · obtain ⟨h1, h2⟩ := h
      have h3 : v < 32 := by
        rcases h2 with h2 | h2
        · omega
        · exact absurd h2 id
      rw [if_neg (by omega), if_neg (by omega), ltr_s, if_pos h3]
  | succ k ih =>
    intro f v hf h
    obtain ⟨f, rfl⟩ : ∃ f', f = f' + 1 := ⟨f - 1, by omega⟩
    rw [cl_app]
    rcases h with h | h
    · subst h
      rw [if_pos rfl, show 0 / 32 = 0 from rfl, ih f 0 (by omega) (Or.inl rfl), if_pos rfl]
      rfl
    · obtain ⟨h1, h2⟩ := h
      rw [ih f (v / 32) (by omega) h2, if_neg (show ¬ v = 0 by omega), ltr_s]
      unfold lt1
      rw [if_neg (show ¬ v % 32 = 0 by omega)]
      by_cases c : v < 32
      · rw [if_pos c, if_pos (show v / 32 = 0 by omega)]; rfl
      · rw [if_neg c, if_neg (show ¬ v / 32 = 0 by omega)]
theorem wb_cu : ∀ k, k < 64 → ((nI k).toInt64.toUInt64 &&& Int64.toUInt64 63) = UInt64.ofNat k := by decide +kernel
theorem w_letter {v k : Nat} (hv : v < 2 ^ 63) (hk : k < 12) : ((((lN v).toUInt64 >>> ((nI (5 * k)).toInt64.toUInt64 &&& Int64.toUInt64 63)).toInt64) &&& (31 : Int64)).toInt32 = nI (v / 32 ^ k % 32) := by
  have e1 : (((lN v).toUInt64 >>> ((nI (5 * k)).toInt64.toUInt64 &&& Int64.toUInt64 63)).toInt64) = lN (v / 32 ^ k) := by
    rw [wb_cu _ (by omega)]
    apply wb_inj
    apply BitVec.eq_of_toNat_eq
    show ((lN v).toUInt64 >>> UInt64.ofNat (5 * k)).toNat = (BitVec.ofNat 64 _).toNat
    have h1 : (UInt64.ofNat (5 * k)).toNat = 5 * k := by
      show (BitVec.ofNat 64 (5 * k)).toNat = 5 * k
      rw [BitVec.toNat_ofNat, Nat.mod_eq_of_lt (by omega)]
    have h2 : (lN v).toUInt64.toNat = v := by
      show (BitVec.ofNat 64 v).toNat = v
      rw [BitVec.toNat_ofNat, Nat.mod_eq_of_lt (by omega)]
    have h3 : (2 : Nat) ^ (5 * k) = 32 ^ k := by rw [Nat.pow_mul]
    rw [UInt64.toNat_shiftRight, h1, h2, Nat.mod_eq_of_lt (by omega), Nat.shiftRight_eq_div_pow, h3, BitVec.toNat_ofNat, Nat.mod_eq_of_lt (Nat.lt_of_le_of_lt (Nat.div_le_self _ _) (by omega))]
  have h4 : v / 32 ^ k < 2 ^ 64 := Nat.lt_of_le_of_lt (Nat.div_le_self _ _) (by omega)
  have e2 : lN (v / 32 ^ k) &&& (31 : Int64) = lN (v / 32 ^ k % 32) := by
    apply wb_inj
    rw [Int64.toBitVec_and, wb_tb, wb_tb]
    apply BitVec.eq_of_toNat_eq
    show (BitVec.ofNat 64 (v / 32 ^ k) &&& BitVec.ofNat 64 31).toNat = _
    rw [BitVec.toNat_and, BitVec.toNat_ofNat, BitVec.toNat_ofNat, BitVec.toNat_ofNat, Nat.mod_eq_of_lt h4, Nat.mod_eq_of_lt (show 31 < 2 ^ 64 by omega), Nat.mod_eq_of_lt (show v / 32 ^ k % 32 < 2 ^ 64 by omega)]
    exact Nat.and_two_pow_sub_one_eq_mod _ 5
  rw [e1, e2, lN_i]
theorem p_nmS {k : Int32 × Int32 × (Nat → Int32) → Option (Int32 × (Nat → Int32))} {v j : Nat} {L : List Nat} {len : Int32} {by_ : Nat → Int32} (hv : v < 2 ^ 63) (hj : j < 12) (h : PG L len by_) (hl : L.length + (lt1 (v / 32 ^ j % 32)).length ≤ 1056) (hd : v / 32 ^ j % 32 < 27) : ∃ by', S_X3_putName_3 (lN v) k (nI (5 * j)) len by_ = k (nI (5 * j) + (-5 : Int32), nI (L ++ lt1 (v / 32 ^ j % 32)).length, by') ∧ PG (L ++ lt1 (v / 32 ^ j % 32)) (nI (L ++ lt1 (v / 32 ^ j % 32)).length) by' := by
  unfold S_X3_putName_3
  rw [if_neg (show ¬ nI (5 * j) < (0 : Int32) from fun h => by have := (nI_ltI (b := 0) (by omega) (by omega)).mp h; omega), w_letter hv hj]
  generalize v / 32 ^ j % 32 = d at *
  unfold lt1 at hl ⊢
  by_cases c : d = 0
  · subst c
    rw [if_pos (show nI 0 ≤ (0 : Int32) by decide), if_pos rfl, List.append_nil]
    refine ⟨by_, ?_, ?_⟩
    · rw [h.1]
    · exact h.1 ▸ h
  · rw [if_neg c] at hl ⊢
    have hl : L.length + 1 ≤ 1056 := hl
    obtain ⟨by', f1, f2⟩ := p_put h (by omega) (c := 96 + d)
    have e : (L ++ [96 + d]).length = L.length + 1 := by rw [List.length_append]; rfl
    rw [if_neg (show ¬ nI d ≤ (0 : Int32) from fun h => by have := (nI_leI (b := 0) (by omega) (by omega)).mp h; omega), show (96 : Int32) + nI d = nI (96 + d) from nI_add 96 d, ch16 _ (by omega), f1, ob2_some, e]
    exact ⟨_, rfl, f2⟩
theorem nm_lt27 : ∀ d v k, (v = 0 ∨ nmOK d v) → v / 32 ^ k % 32 < 27 := by
  intro d
  induction d with
  | zero =>
    intro v k h
    rcases h with h | h
    · subst h; rw [Nat.zero_div]; omega
    · exact absurd h id
  | succ d ih =>
    intro v k h
    rcases h with h | h
    · subst h; rw [Nat.zero_div]; omega
    · cases k with
      | zero =>
        have e : v / 32 ^ 0 = v := Nat.div_one v
        rw [e]
        have := h.1.2; omega
      | succ k =>
        rw [Nat.pow_succ, Nat.mul_comm, ← Nat.div_div_eq_div_mul]
        exact ih _ k h.2
theorem p_nmL {v : Nat} (hv : v < 2 ^ 63) (ho : nmOK 8 v) : ∀ j, j < 12 → ∀ N {L : List Nat} {len : Int32} {by_ : Nat → Int32}, j + 1 < N → PG L len by_ → L.length + (cl v j).length ≤ 1056 → ∃ by', wh (fun k (q : Int32 × Int32 × (Nat → Int32)) => S_X3_putName_3 (lN v) k q.1 q.2.1 q.2.2) N (nI (5 * j), len, by_) = some (nI (L ++ cl v j).length, by') ∧ PG (L ++ cl v j) (nI (L ++ cl v j).length) by' := by
  intro j
  induction j with
  | zero =>
    intro hj N L len by_ hN hP hl
    obtain ⟨N, rfl⟩ : ∃ N', N = N' + 1 + 1 := ⟨N - 2, by omega⟩
    obtain ⟨by', f1, f2⟩ := p_nmS (k := wh (fun k (q : Int32 × Int32 × (Nat → Int32)) => S_X3_putName_3 (lN v) k q.1 q.2.1 q.2.2) (N + 1)) hv hj hP hl (nm_lt27 8 v 0 (Or.inr ho))
    refine ⟨by', ?_, f2⟩
    show S_X3_putName_3 (lN v) (wh _ (N + 1)) (nI (5 * 0)) len by_ = _
    rw [f1]
    show S_X3_putName_3 (lN v) _ (-5 : Int32) _ _ = _
    unfold S_X3_putName_3
    rw [if_pos (by decide)]
    rfl
  | succ j ih =>
    intro hj N L len by_ hN hP hl
    obtain ⟨N, rfl⟩ : ∃ N', N = N' + 1 := ⟨N - 1, by omega⟩
    have ec : cl v (j + 1) = lt1 (v / 32 ^ (j + 1) % 32) ++ cl v j := rfl
    rw [ec, List.length_append] at hl
    obtain ⟨by', f1, f2⟩ := p_nmS (k := wh (fun k (q : Int32 × Int32 × (Nat → Int32)) => S_X3_putName_3 (lN v) k q.1 q.2.1 q.2.2) N) hv hj hP (by omega) (nm_lt27 8 v (j + 1) (Or.inr ho))
    obtain ⟨by2, g1, g2⟩ := ih (by omega) N (by omega) f2 (by rw [List.length_append]; omega)
    have e : L ++ cl v (j + 1) = (L ++ lt1 (v / 32 ^ (j + 1) % 32)) ++ cl v j := by rw [ec, List.append_assoc]
    rw [e]
    refine ⟨by2, ?_, g2⟩
    show S_X3_putName_3 (lN v) (wh _ N) (nI (5 * (j + 1))) len by_ = _
    have e5 : nI (5 * (j + 1)) + (-5 : Int32) = nI (5 * j) := by
      have h : ∀ j, j < 12 → nI (5 * (j + 1)) + (-5 : Int32) = nI (5 * j) := by decide
      exact h j (by omega)
    rw [f1, e5]
    exact g1
theorem p_putName {v : Nat} (ho : nmOK 8 v) {L : List Nat} {len : Int32} {by_ : Nat → Int32} (hP : PG L len by_) (hl : L.length + (ltr 10 v).length ≤ 1056) : ∃ by', F_X3_putName (lN v) len by_ = some (nI (L ++ ltr 10 v).length, by') ∧ PG (L ++ ltr 10 v) (nI (L ++ ltr 10 v).length) by' := by
  have hv := (nmOK_8 ho).2
  have h0 := (nmOK_8 ho).1
  have e := cl_ltr 7 10 v (by omega) (Or.inr ho)
  rw [if_neg (show ¬ v = 0 by omega)] at e
  rw [← e] at hl ⊢
  obtain ⟨by', f1, f2⟩ := p_nmL (by omega) ho 7 (by omega) wF (by unfold wF; omega) hP hl
  have f1 : wh (fun k (q : Int32 × Int32 × (Nat → Int32)) => S_X3_putName_3 (lN v) k q.1 q.2.1 q.2.2) wF ((35 : Int32), len, by_) = some (nI (L ++ cl v 7).length, by') := f1
  unfold F_X3_putName
  rw [ob2_s f1]
  exact ⟨_, rfl, f2⟩
