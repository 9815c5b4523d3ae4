/-! ===== the words of a segment that is read, by both ===== -/
theorem fi_congr {P Q : Nat → Bool} : ∀ n, (∀ j, j < n → P j = Q j) → fi P n = fi Q n := by
  intro n
  induction n with
  | zero => intro _; rfl
  | succ n ih =>
    intro h
    have h1 := ih (fun j hj => h j (by omega))
    have h2 := h n (by omega)
    show (if fi P n < n then fi P n else if P n = true then n else n + 1) = (if fi Q n < n then fi Q n else if Q n = true then n else n + 1)
    rw [h1, h2]
theorem nmOK_b : ∀ d x, nmOK d x → 0 < x ∧ x < 32 ^ d := by
  intro d
  induction d with
  | zero => intro x h; exact h.elim
  | succ d ih =>
    intro x h
    obtain ⟨h1, h2⟩ := h
    have h4 : 0 < 32 ^ d := Nat.pow_pos (by omega)
    rw [Nat.pow_succ]
    rcases h2 with h2 | h2
    · omega
    · have h3 := ih _ h2
      omega
theorem nmOK_8 {x : Nat} (h : nmOK 8 x) : 0 < x ∧ x < 1099511627776 := by
  have := nmOK_b 8 x h
  exact this
theorem lN_40 {a b : Nat} (ha : a < 1099511627776) (hb : b < 1099511627776) : lN a = lN b ↔ a = b := by
  refine ⟨fun h => ?_, fun h => by rw [h]⟩
  have h1 : (lN a).toBitVec.toNat = (lN b).toBitVec.toNat := congrArg (fun x => x.toBitVec.toNat) h
  rw [wb_tb, wb_tb, BitVec.toNat_ofNat, BitVec.toNat_ofNat, Nat.mod_eq_of_lt (by omega), Nat.mod_eq_of_lt (by omega)] at h1
  exact h1
theorem wvl_ok {T : Nat → Nat} {p : Nat} : ∀ d e, d + 1 ≤ e → (∀ j, p ≤ j → j < p + (d + 1) → 97 ≤ T j ∧ T j ≤ 122) → nmOK e (wvl T p (d + 1)) := by
  intro d
  induction d with
  | zero =>
    intro e he h
    obtain ⟨e, rfl⟩ : ∃ e', e = e' + 1 := ⟨e - 1, by omega⟩
    have h1 := h p (by omega) (by omega)
    have h2 : wvl T p (0 + 1) = T p - 96 := by rw [wvl_s]; show 32 * 0 + (T (p + 0) - 96) = _; rw [Nat.add_zero]; omega
    rw [h2]
    exact ⟨by omega, Or.inl (by omega)⟩
  | succ d ih =>
    intro e he h
    obtain ⟨e, rfl⟩ : ∃ e', e = e' + 1 := ⟨e - 1, by omega⟩
    have h1 := h (p + (d + 1)) (by omega) (by omega)
    have h2 := ih e (by omega) (fun j h3 h4 => h j h3 (by omega))
    rw [wvl_s]
    refine ⟨by omega, Or.inr ?_⟩
    rw [show (32 * wvl T p (d + 1) + (T (p + (d + 1)) - 96)) / 32 = wvl T p (d + 1) by omega]
    exact h2
theorem wrd_ok {T : Nat → Nat} {n q : Nat} (hq : q ≤ n) (h : wrd T n q ≠ 0) : nmOK 8 (wrd T n q) ∧ q < rn (isl T n) n q ∧ rn (isl T n) n q - q ≤ 8 ∧ isl T n q = true := by
  have hb := rn_b (P := isl T n) hq
  unfold wrd at h ⊢
  by_cases h1 : rn (isl T n) n q - q ≤ 8
  · rw [if_pos h1] at h ⊢
    have h2 : q < rn (isl T n) n q := by
      rcases Nat.lt_or_ge q (rn (isl T n) n q) with h3 | h3
      · exact h3
      · rw [show rn (isl T n) n q - q = 0 by omega] at h
        exact absurd rfl h
    refine ⟨?_, h2, h1, rn_in (P := isl T n) (n := n) (p := q) (Nat.le_refl _) h2⟩
    have h3 := wvl_ok (T := T) (p := q) (rn (isl T n) n q - q - 1) 8 (by omega) (fun j h4 h5 => (isl_iff.mp (rn_in (P := isl T n) (n := n) (p := q) h4 (by omega))).2)
    rw [show rn (isl T n) n q - q - 1 + 1 = rn (isl T n) n q - q by omega] at h3
    exact h3
  · rw [if_neg h1] at h
    exact absurd rfl h
theorem wrd_0 {T : Nat → Nat} {n q : Nat} (hq : q ≤ n) (h : wrd T n q = 0) : isl T n q = false ∨ 8 < rn (isl T n) n q - q := by
  have hb := rn_b (P := isl T n) hq
  rcases Nat.lt_or_ge 8 (rn (isl T n) n q - q) with h1 | h1
  · exact Or.inr h1
  · refine Or.inl ?_
    unfold wrd at h
    rw [if_pos h1] at h
    rcases Nat.lt_or_ge q (rn (isl T n) n q) with h3 | h3
    · exfalso
      have h4 := wvl_ok (T := T) (p := q) (rn (isl T n) n q - q - 1) 8 (by omega) (fun j h4 h5 => (isl_iff.mp (rn_in (P := isl T n) (n := n) (p := q) h4 (by omega))).2)
      rw [show rn (isl T n) n q - q - 1 + 1 = rn (isl T n) n q - q by omega, h] at h4
      have := (nmOK_8 h4).1
      omega
    · have h4 : rn (isl T n) n q = q := by omega
      have h5 := rn_out (P := isl T n) hq isl_n
      rw [h4] at h5
      exact h5
/-- the number of a name among the words; the number of words: new -/
def wix (A : Nat → Nat) (v : Nat) : Nat := fi (fun w => A (475 + w) == v) (A 7)
theorem wix_b {A : Nat → Nat} {v : Nat} : wix A v ≤ A 7 := fi_le _ _
def adN (A : Nat → Nat) (v : Nat) : Nat → Nat := if wix A v < A 7 then A else uA (uA A (475 + A 7) v) 7 (A 7 + 1)
def adW (A : Nat → Nat) (v : Nat) : Nat → Nat := uA (uA (adN A v) (10 + 12 * A 6 + (3 + A (10 + 12 * A 6 + 2))) (wix A v)) (10 + 12 * A 6 + 2) (A (10 + 12 * A 6 + 2) + 1)
/-- a segment more -/
def seA (A : Nat → Nat) : Nat → Nat := uA (uA (uA A (10 + 12 * A 6 + 11) (A 9)) 9 (A 9 + 1)) 6 (A 6 + 1)
/-- a draft -/
def VP (A : Nat → Nat) : Prop := VA A ∧ A 9 = A 6 ∧ (∀ s, s < A 6 → oA A s 11 = s) ∧ A 409 = 0 ∧ A 410 = 0 ∧ ∀ s, A 6 ≤ s → s < 32 → oA A s 2 = 0
/-- a draft with a segment begun -/
def IP (A : Nat → Nat) : Prop := VA A ∧ A 9 = A 6 ∧ (∀ s, s < A 6 → oA A s 11 = s) ∧ A 409 = 0 ∧ A 410 = 0 ∧ (∀ s, A 6 < s → s < 32 → oA A s 2 = 0) ∧ A 6 < 32 ∧ (1 ≤ oA A (A 6) 0 ∧ oA A (A 6) 0 ≤ 999 ∧ oA A (A 6) 1 ≤ 99 ∧ oA A (A 6) 2 ≤ 8 ∧ ∀ k, k < oA A (A 6) 2 → oA A (A 6) (3 + k) < A 7)
theorem adN_n {A : Nat → Nat} {v j : Nat} (h : j ≠ 7) (h2 : j ≠ 475 + A 7) : adN A v j = A j := by
  unfold adN
  split
  · rfl
  · rw [uA_n h, uA_n h2]
theorem adN_7 {A : Nat → Nat} {v : Nat} : adN A v 7 = if wix A v < A 7 then A 7 else A 7 + 1 := by
  unfold adN
  split
  · rfl
  · rw [uA_s]
theorem adN_VA {A : Nat → Nat} (hV : VA A) {v : Nat} (hv : nmOK 8 v) (h : wix A v < A 7 ∨ A 7 < 24) : VA (adN A v) := by
  unfold adN
  by_cases h1 : wix A v < A 7
  · rw [if_pos h1]; exact hV
  · rw [if_neg h1]
    have hn := hV.n
    have hl := hV.nl
    have hkk := hV.kept
    obtain ⟨⟨c0, c1, c2, c3, c4, c5, c6, c7, c8⟩, ⟨i1, i2, i3⟩, ⟨j1, j2⟩, ⟨k1, k2, k3⟩, l1⟩ := hV
    have e : ∀ j, j ≠ 7 → j < 475 → uA (uA A (475 + A 7) v) 7 (A 7 + 1) j = A j := fun j a b => by rw [uA_n a, uA_n (by omega)]
    have ho : ∀ s w, s < A 6 → w < 12 → oA (uA (uA A (475 + A 7) v) 7 (A 7 + 1)) s w = oA A s w := fun s w hs hw => e _ (by omega) (by omega)
    unfold VA
    rw [e 0 (by omega) (by omega), e 1 (by omega) (by omega), e 2 (by omega) (by omega), e 3 (by omega) (by omega), e 4 (by omega) (by omega), e 5 (by omega) (by omega), e 6 (by omega) (by omega), uA_s, e 8 (by omega) (by omega), e 409 (by omega) (by omega), e 410 (by omega) (by omega)]
    refine ⟨⟨c0, c1, c2, c3, c4, c5, c6, by omega, c8⟩, ⟨fun t ht => ?_, fun t ht k hk => ?_, fun t u ht hu hh => ?_⟩, ⟨fun i hi => ?_, fun i j hij hj => ?_⟩, ⟨k1, k2, fun s hs => ?_⟩, fun w hw => ?_⟩
    · rw [ho t 0 ht (by omega), ho t 1 ht (by omega), ho t 2 ht (by omega), ho t 11 ht (by omega)]; exact i1 t ht
    · have b := i1 t ht
      rw [ho t 2 ht (by omega)] at hk
      rw [ho t (3 + k) ht (by omega)]
      have := i2 t ht k hk
      omega
    · rw [ho t 11 ht (by omega), ho u 11 hu (by omega)] at hh; exact i3 t u ht hu hh
    · rw [e _ (by omega) (by omega), e _ (by omega) (by omega), e _ (by omega) (by omega)]; exact j1 i hi
    · rw [e _ (by omega) (by omega), e _ (by omega) (by omega)]; exact j2 i j hij hj
    · rw [e _ (by omega) (by omega), e _ (by omega) (by omega)]; exact k3 s hs
    · rw [uA_n (by omega)]
      by_cases h2 : w = A 7
      · subst h2; rw [uA_s]; exact hv
      · rw [uA_n (by omega)]; exact l1 w (by omega)
/-- an update outside of what VA says of A -/
theorem VA.out {A B : Nat → Nat} (hV : VA A) (h : ∀ j, (j < 9 ∨ (10 ≤ j ∧ j < 10 + 12 * A 6) ∨ (394 ≤ j ∧ j < 499)) → B j = A j) : VA B := by
  have hn := hV.n
  have hnw := hV.nw
  have hl := hV.nl
  have hkk := hV.kept
  obtain ⟨⟨c0, c1, c2, c3, c4, c5, c6, c7, c8⟩, ⟨i1, i2, i3⟩, ⟨j1, j2⟩, ⟨k1, k2, k3⟩, l1⟩ := hV
  have ho : ∀ s w, s < A 6 → w < 12 → oA B s w = oA A s w := fun s w hs hw => h _ (by omega)
  unfold VA
  rw [h 0 (by omega), h 1 (by omega), h 2 (by omega), h 3 (by omega), h 4 (by omega), h 5 (by omega), h 6 (by omega), h 7 (by omega), h 8 (by omega), h 409 (by omega), h 410 (by omega)]
  refine ⟨⟨c0, c1, c2, c3, c4, c5, c6, c7, c8⟩, ⟨fun t ht => ?_, fun t ht k hk => ?_, fun t u ht hu hh => ?_⟩, ⟨fun i hi => ?_, fun i j hij hj => ?_⟩, ⟨k1, k2, fun s hs => ?_⟩, fun w hw => ?_⟩
  · rw [ho t 0 ht (by omega), ho t 1 ht (by omega), ho t 2 ht (by omega), ho t 11 ht (by omega)]; exact i1 t ht
  · have b := i1 t ht
    rw [ho t 2 ht (by omega)] at hk
    rw [ho t (3 + k) ht (by omega)]; exact i2 t ht k hk
  · rw [ho t 11 ht (by omega), ho u 11 hu (by omega)] at hh; exact i3 t u ht hu hh
  · rw [h _ (by omega), h _ (by omega), h _ (by omega)]; exact j1 i hi
  · rw [h _ (by omega), h _ (by omega)]; exact j2 i j hij hj
  · rw [h _ (by omega), h _ (by omega)]; exact k3 s hs
  · rw [h _ (by omega)]; exact l1 w hw
theorem adW_6 {A : Nat → Nat} {v : Nat} : adW A v 6 = A 6 := by
  unfold adW
  rw [uA_n (by omega), uA_n (by omega), adN_n (by omega) (by omega)]
theorem adW_7 {A : Nat → Nat} {v : Nat} : adW A v 7 = adN A v 7 := by
  unfold adW
  rw [uA_n (by omega), uA_n (by omega)]
/-- the cells of adW -/
theorem adW_r {A : Nat → Nat} (hA : A 6 < 32) (h8 : A (10 + 12 * A 6 + 2) < 8) {v s w : Nat} (hs : s < 32) (hw : w < 12) : oA (adW A v) s w = if s = A 6 ∧ w = 2 then oA A (A 6) 2 + 1 else if s = A 6 ∧ w = 3 + oA A (A 6) 2 then wix A v else oA A s w := by
  unfold adW
  have e2 : oA A (A 6) 2 = A (10 + 12 * A 6 + 2) := rfl
  rw [e2, oA_u (by omega) hw, oA_u (by omega) hw]
  have e3 : oA (adN A v) s w = oA A s w := adN_n (by omega) (by omega)
  rw [e3]
theorem adW_IP {A : Nat → Nat} (h : IP A) {v : Nat} (hv : nmOK 8 v) (h1 : wix A v < A 7 ∨ A 7 < 24) (h8 : oA A (A 6) 2 < 8) : IP (adW A v) := by
  obtain ⟨hV, a1, a2, a3, a4, a5, a6, b0, b1, b2, b3, b4⟩ := h
  have hnw := hV.nw
  have hb := wix_b (A := A) (v := v)
  have h8' : A (10 + 12 * A 6 + 2) < 8 := h8
  have hr := fun s w (hs : s < 32) (hw : w < 12) => adW_r (v := v) a6 h8' hs hw
  have hV2 := adN_VA hV hv h1
  have e6 : adN A v 6 = A 6 := adN_n (by omega) (by omega)
  have e7 : A 7 ≤ adN A v 7 ∧ wix A v < adN A v 7 := by rw [adN_7]; split <;> omega
  unfold IP
  rw [adW_6, adW_7]
  refine ⟨?_, ?_, fun s hs => ?_, ?_, ?_, fun s hs hs2 => ?_, a6, ?_, ?_, ?_, ?_, fun k hk => ?_⟩
  · refine hV2.out (fun j hj => ?_)
    rw [e6] at hj
    unfold adW
    rw [uA_n (by omega), uA_n (by omega)]
  · unfold adW; rw [uA_n (by omega), uA_n (by omega), adN_n (by omega) (by omega)]; exact a1
  · rw [hr s 11 (by omega) (by omega), if_neg (by omega), if_neg (by omega)]; exact a2 s hs
  · unfold adW; rw [uA_n (by omega), uA_n (by omega), adN_n (by omega) (by omega)]; exact a3
  · unfold adW; rw [uA_n (by omega), uA_n (by omega), adN_n (by omega) (by omega)]; exact a4
  · rw [hr s 2 (by omega) (by omega), if_neg (by omega), if_neg (by omega)]; exact a5 s hs hs2
  · rw [hr _ 0 a6 (by omega), if_neg (by omega), if_neg (by omega)]; exact b0
  · rw [hr _ 0 a6 (by omega), if_neg (by omega), if_neg (by omega)]; exact b1
  · rw [hr _ 1 a6 (by omega), if_neg (by omega), if_neg (by omega)]; exact b2
  · rw [hr _ 2 a6 (by omega), if_pos ⟨rfl, rfl⟩]; omega
  · rw [hr _ 2 a6 (by omega), if_pos ⟨rfl, rfl⟩] at hk
    rw [hr _ (3 + k) a6 (by omega), if_neg (by omega)]
    by_cases h9 : k = oA A (A 6) 2
    · rw [if_pos ⟨rfl, by omega⟩]; exact e7.2
    · rw [if_neg (by omega)]
      have := b4 k (by omega)
      omega
theorem se_r {A : Nat → Nat} {s w : Nat} (hw : w < 12) (hs : s < 32) : oA (seA A) s w = if s = A 6 ∧ w = 11 then A 9 else oA A s w := by
  unfold seA
  have e : oA (uA (uA (uA A (10 + 12 * A 6 + 11) (A 9)) 9 (A 9 + 1)) 6 (A 6 + 1)) s w = oA (uA A (10 + 12 * A 6 + 11) (A 9)) s w := by
    unfold oA
    rw [uA_n (by omega), uA_n (by omega)]
  rw [e, oA_u (by omega) hw]
theorem se_n {A : Nat → Nat} {j : Nat} (h : j ≠ 6) (h2 : j ≠ 9) (h3 : j ≠ 10 + 12 * A 6 + 11) : seA A j = A j := by
  unfold seA
  rw [uA_n h, uA_n h2, uA_n h3]
theorem se_6 {A : Nat → Nat} : seA A 6 = A 6 + 1 := uA_s
theorem se_VP {A : Nat → Nat} (h : IP A) (h1 : 1 ≤ oA A (A 6) 2) : VP (seA A) := by
  obtain ⟨hV, a1, a2, a3, a4, a5, a6, b0, b1, b2, b3, b4⟩ := h
  have hnw := hV.nw
  have hl := hV.nl
  have hkk := hV.kept
  have hr := fun s w (hw : w < 12) (hs : s < 32) => se_r (A := A) hw hs
  have e := fun j => se_n (A := A) (j := j)
  have e9 : seA A 9 = A 9 + 1 := by unfold seA; rw [uA_n (by omega), uA_s]
  obtain ⟨⟨c0, c1, c2, c3, c4, c5, c6, c7, c8⟩, ⟨i1, i2, i3⟩, ⟨j1, j2⟩, ⟨k1, k2, k3⟩, l1⟩ := hV
  refine ⟨?_, by rw [e9, se_6, a1], fun s hs => ?_, by rw [e _ (by omega) (by omega) (by omega)]; exact a3, by rw [e _ (by omega) (by omega) (by omega)]; exact a4, fun s hs hs2 => ?_⟩
  · unfold VA
    rw [se_6, e 0 (by omega) (by omega) (by omega), e 1 (by omega) (by omega) (by omega), e 2 (by omega) (by omega) (by omega), e 3 (by omega) (by omega) (by omega), e 4 (by omega) (by omega) (by omega), e 5 (by omega) (by omega) (by omega), e 7 (by omega) (by omega) (by omega), e 8 (by omega) (by omega) (by omega), e 409 (by omega) (by omega) (by omega), e 410 (by omega) (by omega) (by omega)]
    have w11 : ∀ s, s < A 6 + 1 → oA (seA A) s 11 = s := fun s hs => by
      rw [hr s 11 (by omega) (by omega)]
      by_cases h9 : s = A 6
      · rw [if_pos ⟨h9, rfl⟩, a1, h9]
      · rw [if_neg (by omega)]; exact a2 s (by omega)
    have ne : ∀ s w, s < A 6 + 1 → w < 11 → oA (seA A) s w = oA A s w := fun s w hs hw => by
      rw [hr s w (by omega) (by omega), if_neg (by omega)]
    refine ⟨⟨c0, c1, c2, c3, c4, c5, by omega, c7, c8⟩, ⟨fun t ht => ?_, fun t ht k hk => ?_, fun t u ht hu hh => ?_⟩, ⟨fun i hi => ?_, fun i j hij hj => ?_⟩, ⟨k1, k2, fun s hs => ?_⟩, fun w hw => ?_⟩
    · rw [ne t 0 ht (by omega), ne t 1 ht (by omega), ne t 2 ht (by omega), w11 t ht]
      by_cases h9 : t = A 6
      · subst h9; exact ⟨b0, b1, b2, h1, b3, a6⟩
      · have := i1 t (by omega); omega
    · rw [ne t 2 ht (by omega)] at hk
      by_cases h9 : t = A 6
      · subst h9
        rw [ne _ (3 + k) ht (by omega)]; exact b4 k hk
      · have b := i1 t (by omega)
        rw [ne t (3 + k) ht (by omega)]; exact i2 t (by omega) k hk
    · rw [w11 t ht, w11 u hu] at hh; exact hh
    · rw [e _ (by omega) (by omega) (by omega), e _ (by omega) (by omega) (by omega), e _ (by omega) (by omega) (by omega)]; exact j1 i hi
    · rw [e _ (by omega) (by omega) (by omega), e _ (by omega) (by omega) (by omega)]; exact j2 i j hij hj
    · omega
    · rw [e _ (by omega) (by omega) (by omega)]; exact l1 w hw
  · rw [se_6] at hs
    rw [hr s 11 (by omega) (by omega)]
    by_cases h9 : s = A 6
    · rw [if_pos ⟨h9, rfl⟩, a1, h9]
    · rw [if_neg (by omega)]; exact a2 s (by omega)
  · rw [se_6] at hs
    rw [hr s 2 (by omega) (by omega), if_neg (by omega)]; exact a5 s (by omega) hs2
