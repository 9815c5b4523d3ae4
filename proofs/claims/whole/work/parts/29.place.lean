/-! ===== placements ===== -/
def dst (A : Nat → Nat) (i b : Nat) : Nat := if A (394 + 3 * i) ≤ sp A (b + 1) then sp A (b + 1) - A (394 + 3 * i) else A (394 + 3 * i) - sp A (b + 1)
abbrev may (A : Nat → Nat) (i b : Nat) : Prop := A 4 ≤ oA A b 1 ∧ dst A i b ≤ A (394 + 3 * i + 2)
def its (A : Nat → Nat) (i b : Nat) : Nat := dst A i b + (if ctB A b = true then 0 else 20)
def cpi (A : Nat → Nat) (R : Nat → Option Nat) (f t : Nat) : Nat → Option (Nat × Nat)
  | 0 => none
  | d + 1 => match R (f + d) with
    | none => cpi A R f t d
    | some c => if sp A (f + d + 1) < t then cpi A R f t d else match cpi A R f t d with
      | none => some (f + d, c)
      | some x => if c < x.2 then some (f + d, c) else some x
/-- the cheapest place from f on, from time t on -/
def cp (A : Nat → Nat) (R : Nat → Option Nat) (f t : Nat) : Option (Nat × Nat) := cpi A R f t (A 6 - 1 - f)
/-- the least costs of a slot and those behind it; 0: the last -/
def crw (A : Nat → Nat) : Nat → Nat → Option Nat
  | 0 => fun b => if may A (A 8 - 1) b then some (its A (A 8 - 1) b) else none
  | j + 1 => fun b => if may A (A 8 - 1 - (j + 1)) b then (match cp A (crw A j) (b + 1) (sp A (b + 1) + A 5) with
    | none => none
    | some x => some (its A (A 8 - 1 - (j + 1)) b + x.2)) else none
def rw_ (A : Nat → Nat) (i : Nat) : Nat → Option Nat := crw A (A 8 - 1 - i)
/-- from where and when on slot i may be -/
def pst (A : Nat → Nat) : Nat → Option (Nat × Nat)
  | 0 => some (0, 0)
  | i + 1 => match pst A i with
    | none => none
    | some y => match cp A (rw_ A i) y.1 y.2 with
      | none => none
      | some x => some (x.1 + 1, sp A (x.1 + 1) + A 5)
/-- the place of slot i, its cost -/
def plc (A : Nat → Nat) (i : Nat) : Option (Nat × Nat) :=
  match pst A i with
  | none => none
  | some y => cp A (rw_ A i) y.1 y.2
theorem pst_s (A : Nat → Nat) (i : Nat) : pst A (i + 1) = match plc A i with | none => none | some x => some (x.1 + 1, sp A (x.1 + 1) + A 5) := by
  show (match pst A i with | none => none | some y => match cp A (rw_ A i) y.1 y.2 with | none => none | some x => some (x.1 + 1, sp A (x.1 + 1) + A 5)) = _
  unfold plc
  cases pst A i with
  | none => rfl
  | some y => rfl
/-- the cost of the best placement; none -/
def pco (A : Nat → Nat) : Option Nat :=
  match pst A (A 8) with
  | none => none
  | some _ => if A 8 = 0 then some 0 else match plc A 0 with
    | none => none
    | some x => some x.2
def oI (o : Option Nat) : Int32 :=
  match o with
  | none => -nI 1
  | some c => nI c
def oF (o : Option Nat) : Int32 :=
  match o with
  | none => nI 1000000000
  | some c => nI c
theorem cpi_b {A : Nat → Nat} {R : Nat → Option Nat} {f t B : Nat} (hR : ∀ b c, b + 1 < A 6 → R b = some c → c ≤ B) : ∀ d, f + d ≤ A 6 - 1 → ∀ x, cpi A R f t d = some x → f ≤ x.1 ∧ x.1 < f + d ∧ x.2 ≤ B ∧ R x.1 = some x.2 := by
  intro d
  induction d with
  | zero => intro _ x h; cases h
  | succ d ih =>
    intro hd x h
    have h1 := ih (by omega)
    have old : cpi A R f t d = some x → f ≤ x.1 ∧ x.1 < f + (d + 1) ∧ x.2 ≤ B ∧ R x.1 = some x.2 := fun h => by
      have := h1 x h
      exact ⟨this.1, by omega, this.2.2⟩
    have e : cpi A R f t (d + 1) = match R (f + d) with
      | none => cpi A R f t d
      | some c => if sp A (f + d + 1) < t then cpi A R f t d else match cpi A R f t d with
        | none => some (f + d, c)
        | some x => if c < x.2 then some (f + d, c) else some x := rfl
    rw [e] at h
    cases hc : R (f + d) with
    | none => rw [hc] at h; exact old h
    | some c =>
      rw [hc] at h
      have h2 := hR (f + d) c (by omega) hc
      have new : x = (f + d, c) → f ≤ x.1 ∧ x.1 < f + (d + 1) ∧ x.2 ≤ B ∧ R x.1 = some x.2 := fun h => by
        subst h
        exact ⟨by dsimp only; omega, by dsimp only; omega, h2, hc⟩
      dsimp only at h
      by_cases h3 : sp A (f + d + 1) < t
      · rw [if_pos h3] at h; exact old h
      · rw [if_neg h3] at h
        cases hp : cpi A R f t d with
        | none => rw [hp] at h; exact new (Option.some.inj h).symm
        | some y =>
          rw [hp] at h
          dsimp only at h
          by_cases h4 : c < y.2
          · rw [if_pos h4] at h; exact new (Option.some.inj h).symm
          · rw [if_neg h4] at h
            rw [hp] at old
            exact old h
section
variable {A : Nat → Nat} {a : Nat → Int64}
theorem dst_b (hV : VA A) {i b : Nat} (hi : i < A 8) (hb : b < A 6) : dst A i b ≤ 41967 := by
  have h1 := hV.slot hi
  have h2 := sp_b hV (s := b + 1) hb
  unfold dst
  split <;> omega
theorem its_b (hV : VA A) {i b : Nat} (hi : i < A 8) (hb : b < A 6) : its A i b ≤ 41987 := by
  have := dst_b hV hi hb
  unfold its
  split <;> omega
theorem crw_b (hV : VA A) : ∀ j, j < A 8 → ∀ b c, b + 1 < A 6 → crw A j b = some c → c ≤ 42000 * (j + 1) := by
  intro j
  induction j with
  | zero =>
    intro hj b c hb h
    have h : (if may A (A 8 - 1) b then some (its A (A 8 - 1) b) else none) = some c := h
    have h1 := its_b hV (i := A 8 - 1) (b := b) (by omega) (by omega)
    split at h
    · cases h; omega
    · cases h
  | succ j ih =>
    intro hj b c hb h
    have h : (if may A (A 8 - 1 - (j + 1)) b then (match cp A (crw A j) (b + 1) (sp A (b + 1) + A 5) with
      | none => none
      | some x => some (its A (A 8 - 1 - (j + 1)) b + x.2)) else none) = some c := h
    have h1 := its_b hV (i := A 8 - 1 - (j + 1)) (b := b) (by omega) (by omega)
    split at h
    · cases hx : cp A (crw A j) (b + 1) (sp A (b + 1) + A 5) with
      | none => rw [hx] at h; cases h
      | some x =>
        rw [hx] at h
        have h2 := cpi_b (ih (by omega)) _ (by omega) x hx
        cases h
        omega
    · cases h
theorem rw_b (hV : VA A) {i : Nat} (hi : i < A 8) : ∀ b c, b + 1 < A 6 → rw_ A i b = some c → c ≤ 210000 := fun b c hb h => by
  have h1 := crw_b hV (A 8 - 1 - i) (by omega) b c hb h
  have h2 := hV.nl
  omega
theorem rw_e {i : Nat} (hi : i + 1 < A 8) (b : Nat) : rw_ A i b = if may A i b then (match cp A (rw_ A (i + 1)) (b + 1) (sp A (b + 1) + A 5) with
    | none => none
    | some x => some (its A i b + x.2)) else none := by
  unfold rw_
  rw [show A 8 - 1 - i = (A 8 - 1 - (i + 1)) + 1 by omega]
  show (if may A (A 8 - 1 - (A 8 - 1 - (i + 1) + 1)) b then (match cp A (crw A (A 8 - 1 - (i + 1))) (b + 1) (sp A (b + 1) + A 5) with
    | none => none
    | some x => some (its A (A 8 - 1 - (A 8 - 1 - (i + 1) + 1)) b + x.2)) else none) = _
  rw [show A 8 - 1 - (A 8 - 1 - (i + 1) + 1) = i by omega]
theorem rw_l {i : Nat} (hi : i + 1 = A 8) (b : Nat) : rw_ A i b = if may A i b then some (its A i b) else none := by
  unfold rw_
  rw [show A 8 - 1 - i = 0 by omega]
  show (if may A (A 8 - 1) b then some (its A (A 8 - 1) b) else none) = _
  rw [show A 8 - 1 = i by omega]
theorem cp_b (hV : VA A) {i f t : Nat} {x : Nat × Nat} (hi : i < A 8) (h : cp A (rw_ A i) f t = some x) : f ≤ x.1 ∧ x.1 + 1 < A 6 ∧ x.2 ≤ 210000 ∧ rw_ A i x.1 = some x.2 := by
  have hf : f ≤ A 6 - 1 := by
    rcases Nat.lt_or_ge (A 6 - 1) f with h1 | h1
    · unfold cp at h
      rw [show A 6 - 1 - f = 0 by omega] at h
      cases h
    · exact h1
  have h1 := cpi_b (rw_b hV hi) _ (by omega) x h
  exact ⟨h1.1, by omega, h1.2.2⟩
theorem pst_b (hV : VA A) {i : Nat} {y : Nat × Nat} : i ≤ A 8 → pst A i = some y → y.1 ≤ A 6 - 1 ∧ y.2 ≤ 50000 := by
  intro hi h
  cases i with
  | zero => cases h; exact ⟨Nat.zero_le _, Nat.zero_le _⟩
  | succ i =>
    rw [pst_s] at h
    cases hx : plc A i with
    | none => rw [hx] at h; cases h
    | some x =>
      rw [hx] at h
      cases h
      have hp : ∃ f t, cp A (rw_ A i) f t = some x := by
        unfold plc at hx
        cases hy : pst A i with
        | none => rw [hy] at hx; cases hx
        | some y => rw [hy] at hx; exact ⟨_, _, hx⟩
      obtain ⟨f, t, hp⟩ := hp
      have h1 := cp_b hV (by omega) hp
      have h2 := sp_b hV (s := x.1 + 1) (by omega)
      have h3 := hV.s5
      exact ⟨by dsimp only; omega, by dsimp only; omega⟩
theorem pst_no {i : Nat} (h : pst A i = none) : ∀ d, pst A (i + d) = none := by
  intro d
  induction d with
  | zero => exact h
  | succ d ih =>
    rw [show i + (d + 1) = (i + d) + 1 from rfl, pst_s]
    unfold plc
    rw [ih]
/-- what the class holds of the slots -/
def QR (A : Nat → Nat) (n : Int32) (wi le re : Nat → Int32) : Prop := n = nI (A 8) ∧ ∀ i, i < A 8 → wi i = nI (A (394 + 3 * i)) ∧ le i = nI (A (394 + 3 * i + 1)) ∧ re i = nI (A (394 + 3 * i + 2))
theorem absd {x y : Nat} (h1 : x < 2 ^ 30) (h2 : y < 2 ^ 30) : (if nI 0 ≤ nI x - nI y then nI x - nI y else nI 0 - (nI x - nI y)) = nI (if y ≤ x then x - y else y - x) := by
  by_cases h : y ≤ x
  · rw [if_pos h, pk_sub h, if_pos (nI_le (Nat.zero_le _) (by omega))]
  · have h3 : ¬ nI 0 ≤ nI x - nI y := by
      rw [nI_iSub, iI_n 0, iI_le (by omega) (by omega) (by omega) (by omega)]; omega
    rw [if_neg h, if_neg h3, nI_iSub, iI_n 0, iI_sub, iI_n]
    congr 1; omega
theorem nar_b {p : Prop} [Decidable p] : vp_nar .boolean (bI p) = bI p := by
  unfold bI
  by_cases h : p
  · rw [if_pos h]; decide
  · rw [if_neg h]; decide
variable {sc wc ns : Int32} {ord dur pau siz wor st wi le re set tim cut : Nat → Int32} {nam : Nat → Int64}
theorem p_distance (hV : VA A) (hQ : QR A ns wi le re) (hT : ∀ b, b + 1 < A 6 → tim b = nI (sp A (b + 1))) {i b : Nat} (hi : i < A 8) (hb : b + 1 < A 6) : F_X4_distance (nI i) (nI b) tim wi = some (nI (dst A i b)) := by
  have hn := hV.n
  have hl := hV.nl
  have h1 := hQ.2 i hi
  have h2 := hT b hb
  have h3 := hV.slot hi
  have h4 := sp_b hV (s := b + 1) (by omega)
  simp (disch := omega) only [fa_lit, fa_litL, nI_add, pk_mul, pk_sub, nI_clamp, gi_n, gb_0, gb_1, nI_ltI, nI_leI, nI_eq, lc_lt, lc_gt, lc_ge, lc_le, lc_eq, lN_i, nI_l, lN_add, lN_mul, lN_lt, lN_le, lN_eq, mI_eqR, mI_eqL, mI_ltL, mI_ltR, mI_leL, mI_leR, mI_add, ob1_some, ob2_some, ob3_some, ob4_some, ob5_some, ob6_some, ob7_some, ob8_some, if_true, if_false, if_pos, if_neg, Sum.elim_inl, Sum.elim_inr, un1, un2, un3, un4, un5, Nat.zero_add, Nat.add_zero, Nat.mul_one, Nat.mul_zero, Nat.sub_zero, pk_us, pk_uLs, xoq_l, xoq_r, nI_sle, F_X4_distance, h1.1, h2]
  rw [absd (by omega) (by omega)]
  rfl
theorem p_isChoice (hV : VA A) (h : TR A sc wc ord dur pau siz wor nam) (hR : SR A set) (hQ : QR A ns wi le re) (hT : ∀ b, b + 1 < A 6 → tim b = nI (sp A (b + 1))) {i b : Nat} (hi : i < A 8) (hb : b + 1 < A 6) : F_X4_isChoice (nI i) (nI b) tim ord pau wi re set = some (bI (may A i b)) := by
  have hn := hV.n
  have hl := hV.nl
  have h1 := hQ.2 i hi
  have h3 := hV.slot hi
  have h4 := dst_b hV hi (b := b) (by omega)
  have h5 := hV.s4
  have h6 := hV.seg (s := b) (by omega)
  by_cases h7 : A 4 ≤ oA A b 1
  · by_cases h8 : dst A i b ≤ A (394 + 3 * i + 2)
    · rw [bI_1 (show may A i b from ⟨h7, h8⟩)]
      simp (disch := omega) only [fa_lit, fa_litL, nI_add, pk_mul, pk_sub, nI_clamp, gi_n, gb_0, gb_1, nI_ltI, nI_leI, nI_eq, lc_lt, lc_gt, lc_ge, lc_le, lc_eq, lN_i, nI_l, lN_add, lN_mul, lN_lt, lN_le, lN_eq, mI_eqR, mI_eqL, mI_ltL, mI_ltR, mI_leL, mI_leR, mI_add, ob1_some, ob2_some, ob3_some, ob4_some, ob5_some, ob6_some, ob7_some, ob8_some, if_true, if_false, if_pos, if_neg, Sum.elim_inl, Sum.elim_inr, un1, un2, un3, un4, un5, Nat.zero_add, Nat.add_zero, Nat.mul_one, Nat.mul_zero, Nat.sub_zero, pk_us, pk_uLs, xoq_l, xoq_r, nI_sle, F_X4_isChoice, p_pauseOf hV h, hR.at, p_distance hV hQ hT, h1.2.2]
    · rw [bI_0 (fun h : may A i b => h8 h.2)]
      simp (disch := omega) only [fa_lit, fa_litL, nI_add, pk_mul, pk_sub, nI_clamp, gi_n, gb_0, gb_1, nI_ltI, nI_leI, nI_eq, lc_lt, lc_gt, lc_ge, lc_le, lc_eq, lN_i, nI_l, lN_add, lN_mul, lN_lt, lN_le, lN_eq, mI_eqR, mI_eqL, mI_ltL, mI_ltR, mI_leL, mI_leR, mI_add, ob1_some, ob2_some, ob3_some, ob4_some, ob5_some, ob6_some, ob7_some, ob8_some, if_true, if_false, if_pos, if_neg, Sum.elim_inl, Sum.elim_inr, un1, un2, un3, un4, un5, Nat.zero_add, Nat.add_zero, Nat.mul_one, Nat.mul_zero, Nat.sub_zero, pk_us, pk_uLs, xoq_l, xoq_r, nI_sle, F_X4_isChoice, p_pauseOf hV h, hR.at, p_distance hV hQ hT, h1.2.2]
  · rw [bI_0 (fun h : may A i b => h7 h.1)]
    simp (disch := omega) only [fa_lit, fa_litL, nI_add, pk_mul, pk_sub, nI_clamp, gi_n, gb_0, gb_1, nI_ltI, nI_leI, nI_eq, lc_lt, lc_gt, lc_ge, lc_le, lc_eq, lN_i, nI_l, lN_add, lN_mul, lN_lt, lN_le, lN_eq, mI_eqR, mI_eqL, mI_ltL, mI_ltR, mI_leL, mI_leR, mI_add, ob1_some, ob2_some, ob3_some, ob4_some, ob5_some, ob6_some, ob7_some, ob8_some, if_true, if_false, if_pos, if_neg, Sum.elim_inl, Sum.elim_inr, un1, un2, un3, un4, un5, Nat.zero_add, Nat.add_zero, Nat.mul_one, Nat.mul_zero, Nat.sub_zero, pk_us, pk_uLs, xoq_l, xoq_r, nI_sle, F_X4_isChoice, p_pauseOf hV h, hR.at]
/-- the cheapest place, by the class -/
theorem p_cheapest (hV : VA A) (hT : ∀ b, b + 1 < A 6 → tim b = nI (sp A (b + 1))) {cos : Nat → Int32} {R : Nat → Option Nat} {i f t : Nat} (hi : i < 5) (hf : f ≤ A 6 - 1) (ht : t ≤ 100000) (hR : ∀ b, b + 1 < A 6 → cos (i * 31 + b) = oI (R b)) (hRb : ∀ b c, b + 1 < A 6 → R b = some c → c ≤ 300000) :
    F_X4_cheapest (nI i) (nI f) (nI t) (nI (A 6 - 1)) cos tim = some (match cp A R f t with | none => -nI 1 | some x => nI x.1) := by
  have hn := hV.n
  have key : ∃ c2 : Int32, wh (fun k q => S_X4_cheapest_9 (nI i) (nI t) (nI (A 6 - 1)) cos tim k q.1 q.2.1 q.2.2) wF (-nI 1, -nI 1, nI f) = some (match cp A R f t with | none => -nI 1 | some x => nI x.1) := by
    refine ⟨nI 0, ?_⟩
    refine wh_up (A 6 - 1 - f) (by omega) (fun (d : Nat) (q : Int32 × Int32 × Int32) => q.2.2 = nI (f + d) ∧ (match cpi A R f t d with | none => q.1 = -nI 1 | some x => q.1 = nI x.1 ∧ q.2.1 = nI x.2)) (fun (o : Option ((Int32))) => o = some (match cp A R f t with | none => -nI 1 | some x => nI x.1)) (fun d q hd hI k hk => ?_) (Nat.zero_le _) ⟨rfl, rfl⟩
    obtain ⟨l4, l5, l6⟩ := q
    obtain ⟨e1, e2⟩ := hI
    have e1 : l6 = nI (f + d) := e1
    subst e1
    show S_X4_cheapest_9 (nI i) (nI t) (nI (A 6 - 1)) cos tim k l4 l5 (nI (f + d)) = _
    by_cases hlt : d < A 6 - 1 - f
    · have h1 := hR (f + d) (by omega)
      have h2 := hT (f + d) (by omega)
      have h4 := sp_b hV (s := f + d + 1) (by omega)
      have hcp := cpi_b (f := f) (t := t) hRb d (by omega)
      have e : cpi A R f t (d + 1) = match R (f + d) with
        | none => cpi A R f t d
        | some c => if sp A (f + d + 1) < t then cpi A R f t d else match cpi A R f t d with
          | none => some (f + d, c)
          | some x => if c < x.2 then some (f + d, c) else some x := rfl
      cases hc : R (f + d) with
      | none =>
        rw [hc] at e h1
        have h1 : cos (i * 31 + (f + d)) = -nI 1 := h1
        have h9 := hk hlt (l4, l5, nI (f + d + 1)) ⟨rfl, by rw [e]; exact e2⟩
        simp (disch := omega) only [fa_lit, fa_litL, nI_add, pk_mul, pk_sub, nI_clamp, gi_n, gb_0, gb_1, nI_ltI, nI_leI, nI_eq, lc_lt, lc_gt, lc_ge, lc_le, lc_eq, lN_i, nI_l, lN_add, lN_mul, lN_lt, lN_le, lN_eq, mI_eqR, mI_eqL, mI_ltL, mI_ltR, mI_leL, mI_leR, mI_add, ob1_some, ob2_some, ob3_some, ob4_some, ob5_some, ob6_some, ob7_some, ob8_some, if_true, if_false, if_pos, if_neg, Sum.elim_inl, Sum.elim_inr, un1, un2, un3, un4, un5, Nat.zero_add, Nat.add_zero, Nat.mul_one, Nat.mul_zero, Nat.sub_zero, pk_us, pk_uLs, xoq_l, xoq_r, nI_sle, S_X4_cheapest_9, h1]
        exact h9
      | some c =>
        rw [hc] at e h1
        have h1 : cos (i * 31 + (f + d)) = nI c := h1
        have h5 := hRb (f + d) c (by omega) hc
        by_cases h3 : sp A (f + d + 1) < t
        · have h9 := hk hlt (l4, l5, nI (f + d + 1)) ⟨rfl, by rw [e]; dsimp only; rw [if_pos h3]; exact e2⟩
          simp (disch := omega) only [fa_lit, fa_litL, nI_add, pk_mul, pk_sub, nI_clamp, gi_n, gb_0, gb_1, nI_ltI, nI_leI, nI_eq, lc_lt, lc_gt, lc_ge, lc_le, lc_eq, lN_i, nI_l, lN_add, lN_mul, lN_lt, lN_le, lN_eq, mI_eqR, mI_eqL, mI_ltL, mI_ltR, mI_leL, mI_leR, mI_add, ob1_some, ob2_some, ob3_some, ob4_some, ob5_some, ob6_some, ob7_some, ob8_some, if_true, if_false, if_pos, if_neg, Sum.elim_inl, Sum.elim_inr, un1, un2, un3, un4, un5, Nat.zero_add, Nat.add_zero, Nat.mul_one, Nat.mul_zero, Nat.sub_zero, pk_us, pk_uLs, xoq_l, xoq_r, nI_sle, S_X4_cheapest_9, h1, h2]
          exact h9
        · dsimp only at e
          rw [if_neg h3] at e
          cases hp : cpi A R f t d with
          | none =>
            rw [hp] at e e2
            have e2 : l4 = -nI 1 := e2
            subst e2
            have h9 := hk hlt (nI (f + d), nI c, nI (f + d + 1)) ⟨rfl, by rw [e]; exact ⟨rfl, rfl⟩⟩
            simp (disch := omega) only [fa_lit, fa_litL, nI_add, pk_mul, pk_sub, nI_clamp, gi_n, gb_0, gb_1, nI_ltI, nI_leI, nI_eq, lc_lt, lc_gt, lc_ge, lc_le, lc_eq, lN_i, nI_l, lN_add, lN_mul, lN_lt, lN_le, lN_eq, mI_eqR, mI_eqL, mI_ltL, mI_ltR, mI_leL, mI_leR, mI_add, ob1_some, ob2_some, ob3_some, ob4_some, ob5_some, ob6_some, ob7_some, ob8_some, if_true, if_false, if_pos, if_neg, Sum.elim_inl, Sum.elim_inr, un1, un2, un3, un4, un5, Nat.zero_add, Nat.add_zero, Nat.mul_one, Nat.mul_zero, Nat.sub_zero, pk_us, pk_uLs, xoq_l, xoq_r, nI_sle, S_X4_cheapest_9, h1, h2]
            exact h9
          | some x =>
            rw [hp] at e e2
            obtain ⟨e2, e3⟩ := e2
            have e2 : l4 = nI x.1 := e2
            have e3 : l5 = nI x.2 := e3
            subst e2; subst e3
            have h6 := hcp x hp
            dsimp only at e
            by_cases h7 : c < x.2
            · rw [if_pos h7] at e
              have h9 := hk hlt (nI (f + d), nI c, nI (f + d + 1)) ⟨rfl, by rw [e]; exact ⟨rfl, rfl⟩⟩
              simp (disch := omega) only [fa_lit, fa_litL, nI_add, pk_mul, pk_sub, nI_clamp, gi_n, gb_0, gb_1, nI_ltI, nI_leI, nI_eq, lc_lt, lc_gt, lc_ge, lc_le, lc_eq, lN_i, nI_l, lN_add, lN_mul, lN_lt, lN_le, lN_eq, mI_eqR, mI_eqL, mI_ltL, mI_ltR, mI_leL, mI_leR, mI_add, ob1_some, ob2_some, ob3_some, ob4_some, ob5_some, ob6_some, ob7_some, ob8_some, if_true, if_false, if_pos, if_neg, Sum.elim_inl, Sum.elim_inr, un1, un2, un3, un4, un5, Nat.zero_add, Nat.add_zero, Nat.mul_one, Nat.mul_zero, Nat.sub_zero, pk_us, pk_uLs, xoq_l, xoq_r, nI_sle, S_X4_cheapest_9, h1, h2]
              exact h9
            · rw [if_neg h7] at e
              have h9 := hk hlt (nI x.1, nI x.2, nI (f + d + 1)) ⟨rfl, by rw [e]; exact ⟨rfl, rfl⟩⟩
              simp (disch := omega) only [fa_lit, fa_litL, nI_add, pk_mul, pk_sub, nI_clamp, gi_n, gb_0, gb_1, nI_ltI, nI_leI, nI_eq, lc_lt, lc_gt, lc_ge, lc_le, lc_eq, lN_i, nI_l, lN_add, lN_mul, lN_lt, lN_le, lN_eq, mI_eqR, mI_eqL, mI_ltL, mI_ltR, mI_leL, mI_leR, mI_add, ob1_some, ob2_some, ob3_some, ob4_some, ob5_some, ob6_some, ob7_some, ob8_some, if_true, if_false, if_pos, if_neg, Sum.elim_inl, Sum.elim_inr, un1, un2, un3, un4, un5, Nat.zero_add, Nat.add_zero, Nat.mul_one, Nat.mul_zero, Nat.sub_zero, pk_us, pk_uLs, xoq_l, xoq_r, nI_sle, S_X4_cheapest_9, h1, h2]
              exact h9
    · have h8 : d = A 6 - 1 - f := by omega
      subst h8
      have e9 : S_X4_cheapest_9 (nI i) (nI t) (nI (A 6 - 1)) cos tim k l4 l5 (nI (f + (A 6 - 1 - f))) = some l4 := by
        simp (disch := omega) only [fa_lit, fa_litL, nI_add, pk_mul, pk_sub, nI_clamp, gi_n, gb_0, gb_1, nI_ltI, nI_leI, nI_eq, lc_lt, lc_gt, lc_ge, lc_le, lc_eq, lN_i, nI_l, lN_add, lN_mul, lN_lt, lN_le, lN_eq, mI_eqR, mI_eqL, mI_ltL, mI_ltR, mI_leL, mI_leR, mI_add, ob1_some, ob2_some, ob3_some, ob4_some, ob5_some, ob6_some, ob7_some, ob8_some, if_true, if_false, if_pos, if_neg, Sum.elim_inl, Sum.elim_inr, un1, un2, un3, un4, un5, Nat.zero_add, Nat.add_zero, Nat.mul_one, Nat.mul_zero, Nat.sub_zero, pk_us, pk_uLs, xoq_l, xoq_r, nI_sle, S_X4_cheapest_9]
      rw [e9]
      unfold cp
      cases hp : cpi A R f t (A 6 - 1 - f) with
      | none => rw [hp] at e2; exact congrArg some e2
      | some x => rw [hp] at e2; exact congrArg some e2.1
  obtain ⟨-, key⟩ := key
  unfold F_X4_cheapest
  simp only [fa_lit]
  rw [key]
  rfl
end
