/-! ===== shows: what the class holds of a whole one; copies; the history ===== -/
def ksm (A : Nat → Nat) : Nat → Nat
  | 0 => 0
  | s + 1 => ksm A s + A (411 + 2 * s + 1)
theorem ksm_s (A : Nat → Nat) (s : Nat) : ksm A (s + 1) = ksm A s + A (411 + 2 * s + 1) := rfl
def KR (A : Nat → Nat) (ex n tot : Int32) (rws sts drs : Nat → Int32) : Prop :=
  ex = nI (A 409) ∧ (A 409 = 1 → n = nI (A 410) ∧ tot = nI (ksm A (A 410)) ∧ ∀ s, s < A 410 → rws s = nI (A (411 + 2 * s)) ∧ sts s = nI (ksm A s) ∧ drs s = nI (A (411 + 2 * s + 1)))
def SHr (A : Nat → Nat) (S : gq_SH) : Prop :=
  TR A S.1 S.2.1 S.2.2.1 S.2.2.2.1 S.2.2.2.2.1 S.2.2.2.2.2.1 S.2.2.2.2.2.2.1 S.2.2.2.2.2.2.2.1 ∧
  QR A S.2.2.2.2.2.2.2.2.1 S.2.2.2.2.2.2.2.2.2.1 S.2.2.2.2.2.2.2.2.2.2.1 S.2.2.2.2.2.2.2.2.2.2.2.1 ∧
  KR A S.2.2.2.2.2.2.2.2.2.2.2.2.1 S.2.2.2.2.2.2.2.2.2.2.2.2.2.1 S.2.2.2.2.2.2.2.2.2.2.2.2.2.2.1 S.2.2.2.2.2.2.2.2.2.2.2.2.2.2.2.1 S.2.2.2.2.2.2.2.2.2.2.2.2.2.2.2.2.1 S.2.2.2.2.2.2.2.2.2.2.2.2.2.2.2.2.2.1 ∧
  SR A S.2.2.2.2.2.2.2.2.2.2.2.2.2.2.2.2.2.2
theorem cpy_at {α : Type} {f g : Nat → α} {n j : Nat} (h : j < n) : va_cpy f g (0 : Int32).toNatClampNeg (0 : Int32).toNatClampNeg n j = f j := by
  unfold va_cpy
  rw [show (0 : Int32).toNatClampNeg = 0 from by decide, if_pos ⟨Nat.zero_le _, by omega⟩, Nat.zero_add, Nat.sub_zero]
theorem cl_5 : (5 : Int32).toNatClampNeg = 5 := by decide
theorem cl_6 : (6 : Int32).toNatClampNeg = 6 := by decide
theorem cl_24 : (24 : Int32).toNatClampNeg = 24 := by decide
theorem cl_32 : (32 : Int32).toNatClampNeg = 32 := by decide
theorem cl_256 : (256 : Int32).toNatClampNeg = 256 := by decide
theorem cpy_TR {A : Nat → Nat} (hV : VA A) {sc wc : Int32} {ord dur pau siz wor o2 d2 p2 s2 w2 : Nat → Int32} {nam n2 : Nat → Int64} (h : TR A sc wc ord dur pau siz wor nam) : TR A sc wc (va_cpy ord o2 (0 : Int32).toNatClampNeg (0 : Int32).toNatClampNeg (32 : Int32).toNatClampNeg) (va_cpy dur d2 (0 : Int32).toNatClampNeg (0 : Int32).toNatClampNeg (32 : Int32).toNatClampNeg) (va_cpy pau p2 (0 : Int32).toNatClampNeg (0 : Int32).toNatClampNeg (32 : Int32).toNatClampNeg) (va_cpy siz s2 (0 : Int32).toNatClampNeg (0 : Int32).toNatClampNeg (32 : Int32).toNatClampNeg) (va_cpy wor w2 (0 : Int32).toNatClampNeg (0 : Int32).toNatClampNeg (256 : Int32).toNatClampNeg) (va_cpy nam n2 (0 : Int32).toNatClampNeg (0 : Int32).toNatClampNeg (24 : Int32).toNatClampNeg) := by
  have hn := hV.n
  have hnw := hV.nw
  rw [cl_32, cl_256, cl_24]
  refine ⟨h.1, h.2.1, fun s hs => ?_, fun w hw => ?_⟩
  · have h1 := hV.seg hs
    have h2 := h.2.2.1 s hs
    rw [cpy_at (by omega), cpy_at (by omega), cpy_at (by omega), cpy_at (by omega)]
    refine ⟨h2.1, h2.2.1, h2.2.2.1, h2.2.2.2.1, fun k hk => ?_⟩
    rw [cpy_at (by omega)]
    exact h2.2.2.2.2 k hk
  · rw [cpy_at (by omega)]
    exact h.2.2.2 w hw
theorem cpy_QR {A : Nat → Nat} (hV : VA A) {n : Int32} {wi le re w2 l2 r2 : Nat → Int32} (h : QR A n wi le re) : QR A n (va_cpy wi w2 (0 : Int32).toNatClampNeg (0 : Int32).toNatClampNeg (5 : Int32).toNatClampNeg) (va_cpy le l2 (0 : Int32).toNatClampNeg (0 : Int32).toNatClampNeg (5 : Int32).toNatClampNeg) (va_cpy re r2 (0 : Int32).toNatClampNeg (0 : Int32).toNatClampNeg (5 : Int32).toNatClampNeg) := by
  have hl := hV.nl
  rw [cl_5]
  refine ⟨h.1, fun i hi => ?_⟩
  rw [cpy_at (by omega), cpy_at (by omega), cpy_at (by omega)]
  exact h.2 i hi
theorem cpy_KR {A : Nat → Nat} (hV : VA A) {ex n tot : Int32} {rws sts drs r2 s2 d2 : Nat → Int32} (h : KR A ex n tot rws sts drs) : KR A ex n tot (va_cpy rws r2 (0 : Int32).toNatClampNeg (0 : Int32).toNatClampNeg (32 : Int32).toNatClampNeg) (va_cpy sts s2 (0 : Int32).toNatClampNeg (0 : Int32).toNatClampNeg (32 : Int32).toNatClampNeg) (va_cpy drs d2 (0 : Int32).toNatClampNeg (0 : Int32).toNatClampNeg (32 : Int32).toNatClampNeg) := by
  have hk := hV.kept
  rw [cl_32]
  refine ⟨h.1, fun h1 => ⟨(h.2 h1).1, (h.2 h1).2.1, fun s hs => ?_⟩⟩
  rw [cpy_at (by omega), cpy_at (by omega), cpy_at (by omega)]
  exact (h.2 h1).2.2 s hs
theorem cpy_SR {A : Nat → Nat} {set s2 : Nat → Int32} (h : SR A set) : SR A (va_cpy set s2 (0 : Int32).toNatClampNeg (0 : Int32).toNatClampNeg (6 : Int32).toNatClampNeg) := by
  rw [cl_6]
  intro k hk
  rw [cpy_at hk]
  exact h k hk
theorem gb_01 {α : Type} {n : Nat} {x : Option α} (h : n ≤ 1) : gb (nI n) x = x := by
  rcases Nat.le_one_iff_eq_zero_or_eq_one.mp h with h1 | h1
  · rw [h1]; exact gb_0
  · rw [h1]; exact gb_1
theorem p_copy {A : Nat → Nat} (hV : VA A) {S S0 : gq_SH} (h : SHr A S) : ∃ S', F_X6_copyFrom S0.1 S0.2.1 S0.2.2.1 S0.2.2.2.1 S0.2.2.2.2.1 S0.2.2.2.2.2.1 S0.2.2.2.2.2.2.1 S0.2.2.2.2.2.2.2.1 S0.2.2.2.2.2.2.2.2.1 S0.2.2.2.2.2.2.2.2.2.1 S0.2.2.2.2.2.2.2.2.2.2.1 S0.2.2.2.2.2.2.2.2.2.2.2.1 S0.2.2.2.2.2.2.2.2.2.2.2.2.1 S0.2.2.2.2.2.2.2.2.2.2.2.2.2.1 S0.2.2.2.2.2.2.2.2.2.2.2.2.2.2.1 S0.2.2.2.2.2.2.2.2.2.2.2.2.2.2.2.1 S0.2.2.2.2.2.2.2.2.2.2.2.2.2.2.2.2.1 S0.2.2.2.2.2.2.2.2.2.2.2.2.2.2.2.2.2.1 S0.2.2.2.2.2.2.2.2.2.2.2.2.2.2.2.2.2.2 S.1 S.2.1 S.2.2.1 S.2.2.2.1 S.2.2.2.2.1 S.2.2.2.2.2.1 S.2.2.2.2.2.2.1 S.2.2.2.2.2.2.2.1 S.2.2.2.2.2.2.2.2.1 S.2.2.2.2.2.2.2.2.2.1 S.2.2.2.2.2.2.2.2.2.2.1 S.2.2.2.2.2.2.2.2.2.2.2.1 S.2.2.2.2.2.2.2.2.2.2.2.2.1 S.2.2.2.2.2.2.2.2.2.2.2.2.2.1 S.2.2.2.2.2.2.2.2.2.2.2.2.2.2.1 S.2.2.2.2.2.2.2.2.2.2.2.2.2.2.2.1 S.2.2.2.2.2.2.2.2.2.2.2.2.2.2.2.2.1 S.2.2.2.2.2.2.2.2.2.2.2.2.2.2.2.2.2.1 S.2.2.2.2.2.2.2.2.2.2.2.2.2.2.2.2.2.2 = some S' ∧ SHr A S' := by
  have hk := hV.kept
  have he := h.2.2.1.1
  have hg : ∀ {α : Type} (x : Option α), gb S.2.2.2.2.2.2.2.2.2.2.2.2.1 x = x := fun x => by rw [he]; exact gb_01 hk.1
  refine ⟨(S.1, S.2.1, va_cpy S.2.2.1 S0.2.2.1 (0 : Int32).toNatClampNeg (0 : Int32).toNatClampNeg (32 : Int32).toNatClampNeg, va_cpy S.2.2.2.1 S0.2.2.2.1 (0 : Int32).toNatClampNeg (0 : Int32).toNatClampNeg (32 : Int32).toNatClampNeg, va_cpy S.2.2.2.2.1 S0.2.2.2.2.1 (0 : Int32).toNatClampNeg (0 : Int32).toNatClampNeg (32 : Int32).toNatClampNeg, va_cpy S.2.2.2.2.2.1 S0.2.2.2.2.2.1 (0 : Int32).toNatClampNeg (0 : Int32).toNatClampNeg (32 : Int32).toNatClampNeg, va_cpy S.2.2.2.2.2.2.1 S0.2.2.2.2.2.2.1 (0 : Int32).toNatClampNeg (0 : Int32).toNatClampNeg (256 : Int32).toNatClampNeg, va_cpy S.2.2.2.2.2.2.2.1 S0.2.2.2.2.2.2.2.1 (0 : Int32).toNatClampNeg (0 : Int32).toNatClampNeg (24 : Int32).toNatClampNeg, S.2.2.2.2.2.2.2.2.1, va_cpy S.2.2.2.2.2.2.2.2.2.1 S0.2.2.2.2.2.2.2.2.2.1 (0 : Int32).toNatClampNeg (0 : Int32).toNatClampNeg (5 : Int32).toNatClampNeg, va_cpy S.2.2.2.2.2.2.2.2.2.2.1 S0.2.2.2.2.2.2.2.2.2.2.1 (0 : Int32).toNatClampNeg (0 : Int32).toNatClampNeg (5 : Int32).toNatClampNeg, va_cpy S.2.2.2.2.2.2.2.2.2.2.2.1 S0.2.2.2.2.2.2.2.2.2.2.2.1 (0 : Int32).toNatClampNeg (0 : Int32).toNatClampNeg (5 : Int32).toNatClampNeg, S.2.2.2.2.2.2.2.2.2.2.2.2.1, S.2.2.2.2.2.2.2.2.2.2.2.2.2.1, S.2.2.2.2.2.2.2.2.2.2.2.2.2.2.1, va_cpy S.2.2.2.2.2.2.2.2.2.2.2.2.2.2.2.1 S0.2.2.2.2.2.2.2.2.2.2.2.2.2.2.2.1 (0 : Int32).toNatClampNeg (0 : Int32).toNatClampNeg (32 : Int32).toNatClampNeg, va_cpy S.2.2.2.2.2.2.2.2.2.2.2.2.2.2.2.2.1 S0.2.2.2.2.2.2.2.2.2.2.2.2.2.2.2.2.1 (0 : Int32).toNatClampNeg (0 : Int32).toNatClampNeg (32 : Int32).toNatClampNeg, va_cpy S.2.2.2.2.2.2.2.2.2.2.2.2.2.2.2.2.2.1 S0.2.2.2.2.2.2.2.2.2.2.2.2.2.2.2.2.2.1 (0 : Int32).toNatClampNeg (0 : Int32).toNatClampNeg (32 : Int32).toNatClampNeg, va_cpy S.2.2.2.2.2.2.2.2.2.2.2.2.2.2.2.2.2.2 S0.2.2.2.2.2.2.2.2.2.2.2.2.2.2.2.2.2.2 (0 : Int32).toNatClampNeg (0 : Int32).toNatClampNeg (6 : Int32).toNatClampNeg), ?_, ⟨cpy_TR hV h.1, cpy_QR hV h.2.1, cpy_KR hV h.2.2.1, cpy_SR h.2.2.2⟩⟩
  unfold F_X6_copyFrom F_X9_copyFrom F_X7_copyFrom F_X2_copyFrom
  rw [ob8_some, ob4_some, hg, ob6_some]
/-- the history: m shows, the oldest first -/
def HR (H : Nat → Nat → Nat) (m : Nat) (sz old : Int32) (HI : Nat → gq_SH) : Prop := m ≤ 8 ∧ sz = nI m ∧ ∃ o, o < 8 ∧ old = nI o ∧ ∀ i, i < m → VA (H i) ∧ SHr (H i) (HI ((o + i) % 8))
def KK (H : Nat → Nat → Nat) (m : Nat) (km : Int32) (kp : Nat → Int64) : Prop := km = nI m ∧ ∀ i, i < m → ∀ k, k < 499 → kp (499 * i + k) = lN (H i k)
def hpu (H : Nat → Nat → Nat) (m : Nat) (A : Nat → Nat) : Nat → Nat → Nat := fun i => if m = 8 then (if i = 7 then A else H (i + 1)) else (if i = m then A else H i)
def hpm (m : Nat) : Nat := if m = 8 then 8 else m + 1
theorem i_mod8 {n : Nat} (h : n < 1000) : nI n - nI n / nI 8 * nI 8 = nI (n % 8) := by
  rw [pk_div (by omega) (by omega) (by omega), pk_mul, pk_sub (by omega)]
  congr 1; omega
theorem p_remember {A : Nat → Nat} (hV : VA A) {S : gq_SH} (h : SHr A S) {H : Nat → Nat → Nat} {m : Nat} {sz old : Int32} {HI : Nat → gq_SH} (hH : HR H m sz old HI) : ∃ sz' old' HI', F_X1_remember sz old S.1 S.2.1 S.2.2.1 S.2.2.2.1 S.2.2.2.2.1 S.2.2.2.2.2.1 S.2.2.2.2.2.2.1 S.2.2.2.2.2.2.2.1 S.2.2.2.2.2.2.2.2.1 S.2.2.2.2.2.2.2.2.2.1 S.2.2.2.2.2.2.2.2.2.2.1 S.2.2.2.2.2.2.2.2.2.2.2.1 S.2.2.2.2.2.2.2.2.2.2.2.2.1 S.2.2.2.2.2.2.2.2.2.2.2.2.2.1 S.2.2.2.2.2.2.2.2.2.2.2.2.2.2.1 S.2.2.2.2.2.2.2.2.2.2.2.2.2.2.2.1 S.2.2.2.2.2.2.2.2.2.2.2.2.2.2.2.2.1 S.2.2.2.2.2.2.2.2.2.2.2.2.2.2.2.2.2.1 S.2.2.2.2.2.2.2.2.2.2.2.2.2.2.2.2.2.2 HI = some (sz', old', HI') ∧ HR (hpu H m A) (hpm m) sz' old' HI' := by
  obtain ⟨hm, h1, o, h2, h3, h4⟩ := hH
  subst h1; subst h3
  obtain ⟨S', g1, g2⟩ := p_copy (S0 := HI ((o + m) % 8)) hV h
  unfold F_X1_remember
  simp only [fa_lit]
  rw [nI_add, i_mod8 (by omega), gi_n (by omega) (by omega), nI_clamp (by omega), g1]
  by_cases h8 : m = 8
  · subst h8
    refine ⟨nI 8, nI ((o + 1) % 8), va_up HI ((o + 8) % 8) S', ?_, by decide, rfl, (o + 1) % 8, by omega, rfl, fun i hi => ?_⟩
    · rw [nI_add, i_mod8 (by omega)]
      rfl
    · have hi : i < 8 := hi
      unfold hpu va_up
      rw [if_pos rfl]
      by_cases h7 : i = 7
      · subst h7
        rw [if_pos rfl, if_pos (by omega)]
        exact ⟨hV, g2⟩
      · rw [if_neg h7, if_neg (by omega)]
        have h9 := h4 (i + 1) (by omega)
        rw [show ((o + 1) % 8 + i) % 8 = (o + (i + 1)) % 8 by omega]
        exact h9
  · have h9 : ¬ nI 8 ≤ nI m := fun h => by have := (nI_leI (by omega) (by omega)).mp h; omega
    refine ⟨nI (m + 1), nI o, va_up HI ((o + m) % 8) S', ?_, by unfold hpm; rw [if_neg h8]; omega, by unfold hpm; rw [if_neg h8], o, h2, rfl, fun i hi => ?_⟩
    · show (if nI 8 ≤ nI m then _ else _) = _
      rw [if_neg h9, nI_add]
    · unfold hpm at hi
      rw [if_neg h8] at hi
      unfold hpu va_up
      rw [if_neg h8]
      by_cases h7 : i = m
      · subst h7
        rw [if_pos rfl, if_pos rfl]
        exact ⟨hV, g2⟩
      · rw [if_neg h7, if_neg (by omega)]
        exact h4 i (by omega)
theorem p_bringBack {S : gq_SH} {H : Nat → Nat → Nat} {m : Nat} {sz old : Int32} {HI : Nat → gq_SH} (hH : HR H m sz old HI) (h0 : 0 < m) : ∃ S', F_X1_bringBack sz old S.1 S.2.1 S.2.2.1 S.2.2.2.1 S.2.2.2.2.1 S.2.2.2.2.2.1 S.2.2.2.2.2.2.1 S.2.2.2.2.2.2.2.1 S.2.2.2.2.2.2.2.2.1 S.2.2.2.2.2.2.2.2.2.1 S.2.2.2.2.2.2.2.2.2.2.1 S.2.2.2.2.2.2.2.2.2.2.2.1 S.2.2.2.2.2.2.2.2.2.2.2.2.1 S.2.2.2.2.2.2.2.2.2.2.2.2.2.1 S.2.2.2.2.2.2.2.2.2.2.2.2.2.2.1 S.2.2.2.2.2.2.2.2.2.2.2.2.2.2.2.1 S.2.2.2.2.2.2.2.2.2.2.2.2.2.2.2.2.1 S.2.2.2.2.2.2.2.2.2.2.2.2.2.2.2.2.2.1 S.2.2.2.2.2.2.2.2.2.2.2.2.2.2.2.2.2.2 HI = some (nI (m - 1), S') ∧ SHr (H (m - 1)) S' := by
  obtain ⟨hm, h1, o, h2, h3, h4⟩ := hH
  subst h1; subst h3
  have h5 := h4 (m - 1) (by omega)
  obtain ⟨S', g1, g2⟩ := p_copy (S0 := S) h5.1 h5.2
  refine ⟨S', ?_, g2⟩
  have h6 : ¬ nI m ≤ nI 0 := fun h => by have := (nI_leI (by omega) (by omega)).mp h; omega
  unfold F_X1_bringBack
  simp only [fa_lit]
  rw [if_neg h6, pk_sub (by omega), nI_add, i_mod8 (by omega), gi_n (by omega) (by omega), nI_clamp (by omega), g1]
  rfl
theorem HR.pop {H : Nat → Nat → Nat} {m : Nat} {sz old : Int32} {HI : Nat → gq_SH} (hH : HR H m sz old HI) : HR H (m - 1) (nI (m - 1)) old HI := by
  obtain ⟨hm, h1, o, h2, h3, h4⟩ := hH
  exact ⟨by omega, rfl, o, h2, h3, fun i hi => h4 i (by omega)⟩
theorem KK.pop {H : Nat → Nat → Nat} {m : Nat} {km : Int32} {kp : Nat → Int64} (h : KK H m km kp) : KK H (m - 1) (nI (m - 1)) kp := ⟨rfl, fun i hi => h.2 i (by omega)⟩
/-- the reference keeps its row -/
theorem q_keeps50 {A : Nat → Nat} {a : Nat → Int64} (hM : MR A a) {m : Nat} {kp : Nat → Int64} (hm : m < 8) : ∃ kp', F_X11_keeps_b50 (nI m) a kp = some (nI (m + 1), kp') ∧ (∀ k, k < 499 → kp' (499 * m + k) = lN (A k)) ∧ ∀ j, j < 499 * m → kp' j = kp j := by
  have key : ∃ kp', wh (fun k q => S_X11_keeps_52 (nI m) a k q.1 q.2) wF (nI 0, kp) = some kp' ∧ (∀ k, k < 499 → kp' (499 * m + k) = lN (A k)) ∧ ∀ j, j < 499 * m → kp' j = kp j := by
    refine wh_up 499 (by omega) (fun (j : Nat) (q : Int32 × (Nat → Int64)) => q.1 = nI j ∧ (∀ k, k < j → q.2 (499 * m + k) = lN (A k)) ∧ ∀ i, i < 499 * m → q.2 i = kp i) (fun (o : Option (((Nat → Int64)))) => ∃ kp', o = some kp' ∧ (∀ k, k < 499 → kp' (499 * m + k) = lN (A k)) ∧ ∀ j, j < 499 * m → kp' j = kp j) (fun j q hj hI k hk => ?_) (Nat.zero_le _) ⟨rfl, fun k h => absurd h (Nat.not_lt_zero k), fun _ _ => rfl⟩
    obtain ⟨l, P⟩ := q
    obtain ⟨e1, e2, e3⟩ := hI
    have e1 : l = nI j := e1
    subst e1
    have e2 : ∀ k, k < j → P (499 * m + k) = lN (A k) := e2
    have e3 : ∀ i, i < 499 * m → P i = kp i := e3
    by_cases hlt : j < 499
    · have h1 := hM j hlt
      have h9 := hk hlt (nI (j + 1), vp_updL P (499 * m + j) (lN (A j))) ⟨rfl, fun i hi => ?_, fun i hi => ?_⟩
      · simp (disch := omega) only [fa_lit, fa_litL, nI_add, pk_mul, pk_sub, nI_clamp, gi_n, gb_0, gb_1, nI_ltI, nI_leI, nI_eq, lc_lt, lc_gt, lc_ge, lc_le, lc_eq, lN_i, nI_l, lN_add, lN_mul, lN_lt, lN_le, lN_eq, mI_eqR, mI_eqL, mI_ltL, mI_ltR, mI_leL, mI_leR, mI_add, ob1_some, ob2_some, ob3_some, ob4_some, ob5_some, ob6_some, ob7_some, ob8_some, if_true, if_false, if_pos, if_neg, Sum.elim_inl, Sum.elim_inr, un1, un2, un3, un4, un5, Nat.zero_add, Nat.add_zero, Nat.mul_one, Nat.mul_zero, Nat.sub_zero, pk_us, pk_uLs, xoq_l, xoq_r, nI_sle, S_X11_keeps_52, h1]
        exact h9
      · show vp_updL P (499 * m + j) _ (499 * m + i) = _
        by_cases h0 : i = j
        · subst h0; exact pk_uLs
        · rw [pk_uLn (by omega)]; exact e2 i (by omega)
      · show vp_updL P (499 * m + j) _ i = _
        rw [pk_uLn (by omega)]; exact e3 i hi
    · refine ⟨P, ?_, fun i hi => e2 i (by omega), e3⟩
      simp (disch := omega) only [fa_lit, fa_litL, nI_add, pk_mul, pk_sub, nI_clamp, gi_n, gb_0, gb_1, nI_ltI, nI_leI, nI_eq, lc_lt, lc_gt, lc_ge, lc_le, lc_eq, lN_i, nI_l, lN_add, lN_mul, lN_lt, lN_le, lN_eq, mI_eqR, mI_eqL, mI_ltL, mI_ltR, mI_leL, mI_leR, mI_add, ob1_some, ob2_some, ob3_some, ob4_some, ob5_some, ob6_some, ob7_some, ob8_some, if_true, if_false, if_pos, if_neg, Sum.elim_inl, Sum.elim_inr, un1, un2, un3, un4, un5, Nat.zero_add, Nat.add_zero, Nat.mul_one, Nat.mul_zero, Nat.sub_zero, pk_us, pk_uLs, xoq_l, xoq_r, nI_sle, S_X11_keeps_52]
  obtain ⟨kp', g1, g2⟩ := key
  refine ⟨kp', ?_, g2⟩
  unfold F_X11_keeps_b50
  simp only [fa_lit]
  rw [ob1_s g1, nI_add]
theorem q_keeps {A : Nat → Nat} {a : Nat → Int64} (hM : MR A a) {H : Nat → Nat → Nat} {m : Nat} {km : Int32} {kp : Nat → Int64} (hm : m ≤ 8) (hK : KK H m km kp) : ∃ kp', F_X11_keeps km a kp = some (nI (hpm m), kp') ∧ KK (hpu H m A) (hpm m) (nI (hpm m)) kp' := by
  obtain ⟨h1, h2⟩ := hK
  subst h1
  by_cases h8 : m = 8
  · subst h8
    obtain ⟨k1, f1, f2⟩ : ∃ k1, wh (fun k q => S_X11_keeps_11 (nI 8) a k q.1 q.2) wF (nI 0, kp) = some k1 ∧ ∀ j, j < 3493 → k1 j = kp (j + 499) := by
      refine wh_up 3493 (by omega) (fun (j : Nat) (q : Int32 × (Nat → Int64)) => q.1 = nI j ∧ (∀ i, i < j → q.2 i = kp (i + 499)) ∧ ∀ i, j ≤ i → q.2 i = kp i) (fun (o : Option (((Nat → Int64)))) => ∃ k1, o = some k1 ∧ ∀ j, j < 3493 → k1 j = kp (j + 499)) (fun j q hj hI k hk => ?_) (Nat.zero_le _) ⟨rfl, fun k h => absurd h (Nat.not_lt_zero k), fun _ _ => rfl⟩
      obtain ⟨l, P⟩ := q
      obtain ⟨e1, e2, e3⟩ := hI
      have e1 : l = nI j := e1
      subst e1
      have e2 : ∀ i, i < j → P i = kp (i + 499) := e2
      have e3 : ∀ i, j ≤ i → P i = kp i := e3
      by_cases hlt : j < 3493
      · have h5 := e3 (j + 499) (by omega)
        have h9 := hk hlt (nI (j + 1), vp_updL P j (kp (j + 499))) ⟨rfl, fun i hi => ?_, fun i hi => ?_⟩
        · simp (disch := omega) only [fa_lit, fa_litL, nI_add, pk_mul, pk_sub, nI_clamp, gi_n, gb_0, gb_1, nI_ltI, nI_leI, nI_eq, lc_lt, lc_gt, lc_ge, lc_le, lc_eq, lN_i, nI_l, lN_add, lN_mul, lN_lt, lN_le, lN_eq, mI_eqR, mI_eqL, mI_ltL, mI_ltR, mI_leL, mI_leR, mI_add, ob1_some, ob2_some, ob3_some, ob4_some, ob5_some, ob6_some, ob7_some, ob8_some, if_true, if_false, if_pos, if_neg, Sum.elim_inl, Sum.elim_inr, un1, un2, un3, un4, un5, Nat.zero_add, Nat.add_zero, Nat.mul_one, Nat.mul_zero, Nat.sub_zero, pk_us, pk_uLs, xoq_l, xoq_r, nI_sle, S_X11_keeps_11, h5]
          exact h9
        · show vp_updL P j _ i = _
          by_cases h0 : i = j
          · subst h0; exact pk_uLs
          · rw [pk_uLn h0]; exact e2 i (by omega)
        · show vp_updL P j _ i = _
          rw [pk_uLn (by omega)]; exact e3 i (by omega)
      · refine ⟨P, ?_, fun i hi => e2 i (by omega)⟩
        simp (disch := omega) only [fa_lit, fa_litL, nI_add, pk_mul, pk_sub, nI_clamp, gi_n, gb_0, gb_1, nI_ltI, nI_leI, nI_eq, lc_lt, lc_gt, lc_ge, lc_le, lc_eq, lN_i, nI_l, lN_add, lN_mul, lN_lt, lN_le, lN_eq, mI_eqR, mI_eqL, mI_ltL, mI_ltR, mI_leL, mI_leR, mI_add, ob1_some, ob2_some, ob3_some, ob4_some, ob5_some, ob6_some, ob7_some, ob8_some, if_true, if_false, if_pos, if_neg, Sum.elim_inl, Sum.elim_inr, un1, un2, un3, un4, un5, Nat.zero_add, Nat.add_zero, Nat.mul_one, Nat.mul_zero, Nat.sub_zero, pk_us, pk_uLs, xoq_l, xoq_r, nI_sle, S_X11_keeps_11]
    obtain ⟨k2, f3, f4, f5⟩ := q_keeps50 (m := 7) (kp := k1) hM (by omega)
    refine ⟨k2, ?_, rfl, fun i hi k hk => ?_⟩
    · unfold F_X11_keeps
      simp only [fa_lit]
      rw [if_true, ob1_s f1, show nI 8 - nI 1 = nI 7 from by decide, f3]
      rfl
    · have hi : i < 8 := hi
      unfold hpu
      rw [if_pos rfl]
      by_cases h7 : i = 7
      · subst h7
        rw [if_pos rfl]
        exact f4 k hk
      · rw [if_neg h7, f5 _ (by omega), f2 _ (by omega), show 499 * i + k + 499 = 499 * (i + 1) + k by omega]
        exact h2 (i + 1) (by omega) k hk
  · obtain ⟨k2, f3, f4, f5⟩ := q_keeps50 (m := m) (kp := kp) hM (by omega)
    have h9 : ¬ nI m = nI 8 := fun h => by have := (nI_eq (by omega) (by omega)).mp h; omega
    have h10 : hpm m = m + 1 := by unfold hpm; rw [if_neg h8]
    rw [h10]
    refine ⟨k2, ?_, rfl, fun i hi k hk => ?_⟩
    · unfold F_X11_keeps
      simp only [fa_lit]
      rw [if_neg h9, f3]
    · unfold hpu
      rw [if_neg h8]
      by_cases h7 : i = m
      · subst h7
        rw [if_pos rfl]
        exact f4 k hk
      · rw [if_neg h7, f5 _ (by omega)]
        exact h2 i (by omega) k hk
theorem q_undoLoop {H : Nat → Nat → Nat} {m : Nat} {km th : Int32} {kp a : Nat → Int64} (hm : m < 8) (h2 : ∀ k, k < 499 → kp (499 * m + k) = lN (H m k)) : ∃ a', wh (fun k q => S_X11_undo_37 (nI m) th kp k q.1 q.2) wF (nI 0, a) = some a' ∧ MR (H m) a' := by
  refine wh_up 499 (by omega) (fun (j : Nat) (q : Int32 × (Nat → Int64)) => q.1 = nI j ∧ ∀ i, i < j → q.2 i = lN (H m i)) (fun (o : Option (((Nat → Int64)))) => ∃ a', o = some a' ∧ MR (H m) a') (fun j q hj hI k hk => ?_) (Nat.zero_le _) ⟨rfl, fun k h => absurd h (Nat.not_lt_zero k)⟩
  obtain ⟨l, P⟩ := q
  obtain ⟨e1, e2⟩ := hI
  have e1 : l = nI j := e1
  subst e1
  have e2 : ∀ i, i < j → P i = lN (H m i) := e2
  by_cases hlt : j < 499
  · have h5 := h2 j hlt
    have h9 := hk hlt (nI (j + 1), vp_updL P j (lN (H m j))) ⟨rfl, fun i hi => ?_⟩
    · simp (disch := omega) only [fa_lit, fa_litL, nI_add, pk_mul, pk_sub, nI_clamp, gi_n, gb_0, gb_1, nI_ltI, nI_leI, nI_eq, lc_lt, lc_gt, lc_ge, lc_le, lc_eq, lN_i, nI_l, lN_add, lN_mul, lN_lt, lN_le, lN_eq, mI_eqR, mI_eqL, mI_ltL, mI_ltR, mI_leL, mI_leR, mI_add, ob1_some, ob2_some, ob3_some, ob4_some, ob5_some, ob6_some, ob7_some, ob8_some, if_true, if_false, if_pos, if_neg, Sum.elim_inl, Sum.elim_inr, un1, un2, un3, un4, un5, Nat.zero_add, Nat.add_zero, Nat.mul_one, Nat.mul_zero, Nat.sub_zero, pk_us, pk_uLs, xoq_l, xoq_r, nI_sle, S_X11_undo_37, h5]
      exact h9
    · show vp_updL P j _ i = _
      by_cases h0 : i = j
      · subst h0; exact pk_uLs
      · rw [pk_uLn h0]; exact e2 i (by omega)
  · refine ⟨P, ?_, fun i hi => e2 i (by omega)⟩
    simp (disch := omega) only [fa_lit, fa_litL, nI_add, pk_mul, pk_sub, nI_clamp, gi_n, gb_0, gb_1, nI_ltI, nI_leI, nI_eq, lc_lt, lc_gt, lc_ge, lc_le, lc_eq, lN_i, nI_l, lN_add, lN_mul, lN_lt, lN_le, lN_eq, mI_eqR, mI_eqL, mI_ltL, mI_ltR, mI_leL, mI_leR, mI_add, ob1_some, ob2_some, ob3_some, ob4_some, ob5_some, ob6_some, ob7_some, ob8_some, if_true, if_false, if_pos, if_neg, Sum.elim_inl, Sum.elim_inr, un1, un2, un3, un4, un5, Nat.zero_add, Nat.add_zero, Nat.mul_one, Nat.mul_zero, Nat.sub_zero, pk_us, pk_uLs, xoq_l, xoq_r, nI_sle, S_X11_undo_37]
