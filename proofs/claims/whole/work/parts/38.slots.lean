/-! ===== slots put in and taken out ===== -/
/-- the number of slots that are wished at w or before, among the first n -/
def plw (A : Nat → Nat) (w : Nat) : Nat → Nat
  | 0 => 0
  | n + 1 => if A (394 + 3 * n) ≤ w then n + 1 else plw A w n
theorem plw_s (A : Nat → Nat) (w n : Nat) : plw A w (n + 1) = if A (394 + 3 * n) ≤ w then n + 1 else plw A w n := rfl
theorem plw_le (A : Nat → Nat) (w : Nat) : ∀ n, plw A w n ≤ n := by
  intro n
  induction n with
  | zero => exact Nat.le_refl 0
  | succ n ih => rw [plw_s]; split <;> omega
theorem plw_lt {A : Nat → Nat} {w : Nat} : ∀ n i, plw A w n ≤ i → i < n → w < A (394 + 3 * i) := by
  intro n
  induction n with
  | zero => intro i _ h; exact absurd h (Nat.not_lt_zero i)
  | succ n ih =>
    intro i h1 h2
    rw [plw_s] at h1
    by_cases h3 : A (394 + 3 * n) ≤ w
    · rw [if_pos h3] at h1; omega
    · rw [if_neg h3] at h1
      by_cases h4 : i = n
      · subst h4; omega
      · exact ih i h1 (by omega)
theorem plw_at {A : Nat → Nat} {w : Nat} : ∀ n, 0 < plw A w n → A (394 + 3 * (plw A w n - 1)) ≤ w := by
  intro n
  induction n with
  | zero => intro h; exact absurd h (Nat.not_lt_zero 0)
  | succ n ih =>
    rw [plw_s]
    by_cases h3 : A (394 + 3 * n) ≤ w
    · rw [if_pos h3]; intro _; exact h3
    · rw [if_neg h3]; exact ih
theorem plw_ge {A : Nat → Nat} (hs : ∀ i j, i ≤ j → j < A 8 → A (394 + 3 * i) ≤ A (394 + 3 * j)) {w i : Nat} (hi : i < plw A w (A 8)) : A (394 + 3 * i) ≤ w := by
  have h1 := plw_at (A := A) (w := w) (A 8) (by omega)
  have h2 := plw_le A w (A 8)
  have h3 := hs i (plw A w (A 8) - 1) (by omega) (by omega)
  omega
/-- the show with a slot more, at place p -/
def isA (A : Nat → Nat) (p w l r : Nat) : Nat → Nat := fun j => if j = 8 then A 8 + 1 else if j = 394 + 3 * p then w else if j = 394 + 3 * p + 1 then l else if j = 394 + 3 * p + 2 then r else if 394 + 3 * p + 3 ≤ j ∧ j < 394 + 3 * A 8 + 3 then A (j - 3) else A j
theorem is_lo {A : Nat → Nat} {p w l r i c : Nat} (hi : i < p) (hc : c < 3) (h8 : p ≤ 5) : isA A p w l r (394 + 3 * i + c) = A (394 + 3 * i + c) := by
  unfold isA
  rw [if_neg (by omega), if_neg (by omega), if_neg (by omega), if_neg (by omega), if_neg (by omega)]
theorem is_hi {A : Nat → Nat} {p w l r i c : Nat} (hi : p ≤ i) (hn : i < A 8) (hc : c < 3) : isA A p w l r (394 + 3 * (i + 1) + c) = A (394 + 3 * i + c) := by
  unfold isA
  rw [if_neg (by omega), if_neg (by omega), if_neg (by omega), if_neg (by omega), if_pos (by omega)]
  congr 1; omega
theorem is_n {A : Nat → Nat} {p w l r j : Nat} (h8 : A 8 < 5) (hp : p ≤ A 8) (hj : j < 394 ∨ 409 ≤ j) (h : j ≠ 8) : isA A p w l r j = A j := by
  unfold isA
  rw [if_neg h, if_neg (by omega), if_neg (by omega), if_neg (by omega), if_neg (by omega)]
theorem is_VA {A : Nat → Nat} (hV : VA A) {w l r : Nat} (h8 : A 8 < 5) (hw : w ≤ 9999) (hl : 1 ≤ l ∧ l ≤ 300) (hr : r ≤ 999) : VA (isA A (plw A w (A 8)) w l r) := by
  have hk := hV.kept
  have hn := hV.n
  have hnw := hV.nw
  have hp := plw_le A w (A 8)
  obtain ⟨p, hpe⟩ : ∃ p, p = plw A w (A 8) := ⟨_, rfl⟩
  have hlow := fun i => plw_ge (A := A) hV.2.2.1.2 (w := w) (i := i)
  have hhigh := plw_lt (A := A) (w := w) (A 8)
  rw [← hpe] at hp hhigh ⊢
  simp only [← hpe] at hlow
  obtain ⟨⟨c0, c1, c2, c3, c4, c5, c6, c7, c8⟩, ⟨i1, i2, i3⟩, ⟨j1, j2⟩, ⟨k1, k2, k3⟩, l1⟩ := hV
  have e := fun j => is_n (A := A) (p := p) (w := w) (l := l) (r := r) (j := j) h8 hp
  have ho : ∀ s v, s < A 6 → v < 12 → oA (isA A p w l r) s v = oA A s v := fun s v hs hv => e _ (by omega) (by omega)
  have e8 : isA A p w l r 8 = A 8 + 1 := if_pos rfl
  have ep : isA A p w l r (394 + 3 * p) = w ∧ isA A p w l r (394 + 3 * p + 1) = l ∧ isA A p w l r (394 + 3 * p + 2) = r := by
    unfold isA
    refine ⟨?_, ?_, ?_⟩
    · rw [if_neg (by omega), if_pos rfl]
    · rw [if_neg (by omega), if_neg (by omega), if_pos rfl]
    · rw [if_neg (by omega), if_neg (by omega), if_neg (by omega), if_pos rfl]
  have row : ∀ i, i < A 8 + 1 → (i = p ∨ ∃ i', i' < A 8 ∧ ((i < p ∧ i' = i) ∨ (p < i ∧ i = i' + 1)) ∧ ∀ c, c < 3 → isA A p w l r (394 + 3 * i + c) = A (394 + 3 * i' + c)) := fun i hi => by
    rcases Nat.lt_trichotomy i p with h | h | h
    · exact Or.inr ⟨i, by omega, Or.inl ⟨h, rfl⟩, fun c hc => is_lo h hc (by omega)⟩
    · exact Or.inl h
    · refine Or.inr ⟨i - 1, by omega, Or.inr ⟨h, by omega⟩, fun c hc => ?_⟩
      have := is_hi (A := A) (p := p) (w := w) (l := l) (r := r) (i := i - 1) (c := c) (by omega) (by omega) hc
      rw [show i - 1 + 1 = i by omega] at this
      exact this
  unfold VA
  rw [e 0 (by omega) (by omega), e 1 (by omega) (by omega), e 2 (by omega) (by omega), e 3 (by omega) (by omega), e 4 (by omega) (by omega), e 5 (by omega) (by omega), e 6 (by omega) (by omega), e 7 (by omega) (by omega), e8, e 409 (by omega) (by omega), e 410 (by omega) (by omega)]
  refine ⟨⟨c0, c1, c2, c3, c4, c5, c6, c7, by omega⟩, ⟨fun t ht => ?_, fun t ht k hk => ?_, fun t u ht hu hh => ?_⟩, ⟨fun i hi => ?_, fun i j hij hj => ?_⟩, ⟨k1, k2, fun s hs => ?_⟩, fun w hw => ?_⟩
  · rw [ho t 0 ht (by omega), ho t 1 ht (by omega), ho t 2 ht (by omega), ho t 11 ht (by omega)]; exact i1 t ht
  · have b := i1 t ht
    rw [ho t 2 ht (by omega)] at hk
    rw [ho t (3 + k) ht (by omega)]; exact i2 t ht k hk
  · rw [ho t 11 ht (by omega), ho u 11 hu (by omega)] at hh; exact i3 t u ht hu hh
  · rcases row i hi with h | ⟨i', h1, h2, h3⟩
    · subst h; rw [ep.1, ep.2.1, ep.2.2]; exact ⟨hw, hl.1, hl.2, hr⟩
    · have b := j1 i' h1
      have f0 := h3 0 (by omega)
      rw [Nat.add_zero, Nat.add_zero] at f0
      rw [f0, h3 1 (by omega), h3 2 (by omega)]; exact b
  · have up : ∀ q, q < A 8 → q < p → A (394 + 3 * q) ≤ w := fun q _ hq => hlow q hq
    have dn : ∀ q, q < A 8 → p ≤ q → w ≤ A (394 + 3 * q) := fun q hq1 hq2 => by have := hhigh q hq2 hq1; omega
    rcases row i (by omega) with h | ⟨i', h1, h2, h3⟩
    · subst h
      rw [ep.1]
      rcases row j hj with h | ⟨j', g1, g2, g3⟩
      · subst h; rw [ep.1]; exact Nat.le_refl _
      · have f0 := g3 0 (by omega)
        rw [Nat.add_zero, Nat.add_zero] at f0
        rw [f0]; exact dn j' g1 (by omega)
    · have f0 := h3 0 (by omega)
      rw [Nat.add_zero, Nat.add_zero] at f0
      rw [f0]
      rcases row j hj with h | ⟨j', g1, g2, g3⟩
      · subst h; rw [ep.1]; exact up i' h1 (by omega)
      · have f1 := g3 0 (by omega)
        rw [Nat.add_zero, Nat.add_zero] at f1
        rw [f1]; exact j2 i' j' (by omega) g1
  · rw [e _ (by omega) (by omega), e _ (by omega) (by omega)]; exact k3 s hs
  · rw [e _ (by omega) (by omega)]; exact l1 w hw
/-- the show without slot s -/
def dsA (A : Nat → Nat) (s : Nat) : Nat → Nat := fun j => if j = 8 then A 8 - 1 else if 394 + 3 * s ≤ j ∧ j < 394 + 3 * (A 8 - 1) then A (j + 3) else if 394 + 3 * (A 8 - 1) ≤ j ∧ j < 394 + 3 * (A 8 - 1) + 3 then 0 else A j
theorem ds_at {A : Nat → Nat} {s i c : Nat} (hs : s < A 8) (hi : i < A 8 - 1) (hc : c < 3) : dsA A s (394 + 3 * i + c) = A (394 + 3 * (if i < s then i else i + 1) + c) := by
  unfold dsA
  rw [if_neg (by omega)]
  by_cases h : i < s
  · rw [if_neg (by omega), if_neg (by omega), if_pos h]
  · rw [if_pos (by omega), if_neg h]; congr 1; omega
theorem ds_n {A : Nat → Nat} {s j : Nat} (hs : s < A 8) (h5 : A 8 ≤ 5) (hj : j < 394 ∨ 409 ≤ j) (h : j ≠ 8) : dsA A s j = A j := by
  unfold dsA
  rw [if_neg h, if_neg (by omega), if_neg (by omega)]
theorem ds_VA {A : Nat → Nat} (hV : VA A) {s : Nat} (hs : s < A 8) : VA (dsA A s) := by
  have hk := hV.kept
  have hn := hV.n
  have hnw := hV.nw
  have hl := hV.nl
  obtain ⟨⟨c0, c1, c2, c3, c4, c5, c6, c7, c8⟩, ⟨i1, i2, i3⟩, ⟨j1, j2⟩, ⟨k1, k2, k3⟩, l1⟩ := hV
  have e := fun j => ds_n (A := A) (s := s) (j := j) hs hl
  have ho : ∀ t v, t < A 6 → v < 12 → oA (dsA A s) t v = oA A t v := fun t v ht hv => e _ (by omega) (by omega)
  have e8 : dsA A s 8 = A 8 - 1 := if_pos rfl
  unfold VA
  rw [e 0 (by omega) (by omega), e 1 (by omega) (by omega), e 2 (by omega) (by omega), e 3 (by omega) (by omega), e 4 (by omega) (by omega), e 5 (by omega) (by omega), e 6 (by omega) (by omega), e 7 (by omega) (by omega), e8, e 409 (by omega) (by omega), e 410 (by omega) (by omega)]
  refine ⟨⟨c0, c1, c2, c3, c4, c5, c6, c7, by omega⟩, ⟨fun t ht => ?_, fun t ht k hk => ?_, fun t u ht hu hh => ?_⟩, ⟨fun i hi => ?_, fun i j hij hj => ?_⟩, ⟨k1, k2, fun s hs => ?_⟩, fun w hw => ?_⟩
  · rw [ho t 0 ht (by omega), ho t 1 ht (by omega), ho t 2 ht (by omega), ho t 11 ht (by omega)]; exact i1 t ht
  · have b := i1 t ht
    rw [ho t 2 ht (by omega)] at hk
    rw [ho t (3 + k) ht (by omega)]; exact i2 t ht k hk
  · rw [ho t 11 ht (by omega), ho u 11 hu (by omega)] at hh; exact i3 t u ht hu hh
  · have f0 := ds_at hs hi (c := 0) (by omega)
    rw [Nat.add_zero, Nat.add_zero] at f0
    rw [f0, ds_at hs hi (c := 1) (by omega), ds_at hs hi (c := 2) (by omega)]
    exact j1 _ (by split <;> omega)
  · have f0 := ds_at hs hj (c := 0) (by omega)
    have f1 := ds_at hs (show i < A 8 - 1 by omega) (c := 0) (by omega)
    rw [Nat.add_zero, Nat.add_zero] at f0 f1
    rw [f0, f1]
    exact j2 _ _ (by split <;> split <;> omega) (by split <;> omega)
  · rw [e _ (by omega) (by omega), e _ (by omega) (by omega)]; exact k3 s hs
  · rw [e _ (by omega) (by omega)]; exact l1 w hw
section
variable {A : Nat → Nat} {a : Nat → Int64} {ns : Int32} {wi le re : Nat → Int32}
theorem p_take {i j : Nat} (hi : i < 5) (hj : j < 5) : F_X7_take (nI i) (nI j) wi le re = some (upd wi i (wi j), upd le i (le j), upd re i (re j)) := by
  simp (disch := omega) only [fa_lit, fa_litL, nI_add, pk_mul, pk_sub, nI_clamp, gi_n, gb_0, gb_1, nI_ltI, nI_leI, nI_eq, lc_lt, lc_gt, lc_ge, lc_le, lc_eq, lN_i, nI_l, lN_add, lN_mul, lN_lt, lN_le, lN_eq, mI_eqR, mI_eqL, mI_ltL, mI_ltR, mI_leL, mI_leR, mI_add, ob1_some, ob2_some, ob3_some, ob4_some, ob5_some, ob6_some, ob7_some, ob8_some, if_true, if_false, if_pos, if_neg, Sum.elim_inl, Sum.elim_inr, un1, un2, un3, un4, un5, Nat.zero_add, Nat.add_zero, Nat.mul_one, Nat.mul_zero, Nat.sub_zero, pk_us, pk_uLs, xoq_l, xoq_r, nI_sle, F_X7_take]
/-- slots put in, by the class -/
theorem p_insert (hV : VA A) (hQ : QR A ns wi le re) {w l r : Nat} (h8 : A 8 < 5) (hw : w ≤ 9999) (hl : l ≤ 300) (hr : r ≤ 999) :
    ∃ wi' le' re', F_X7_insert (nI w) (nI l) (nI r) ns wi le re = some (nI (plw A w (A 8)), nI (A 8 + 1), wi', le', re') ∧ QR (isA A (plw A w (A 8)) w l r) (nI (A 8 + 1)) wi' le' re' := by
  obtain ⟨hq, hq2⟩ := hQ
  subst hq
  have hp := plw_le A w (A 8)
  obtain ⟨p, hpe⟩ : ∃ p, p = plw A w (A 8) := ⟨_, rfl⟩
  have hlow := fun i => plw_ge (A := A) hV.2.2.1.2 (w := w) (i := i)
  have hhigh := plw_lt (A := A) (w := w) (A 8)
  rw [← hpe] at hp hhigh ⊢
  simp only [← hpe] at hlow
  have hsl : ∀ i, i < A 8 → A (394 + 3 * i) ≤ 9999 := fun i hi => (hV.slot hi).1
  obtain ⟨W, L, R, f1, f2, f3⟩ : ∃ W L R, wh (fun k q => S_X7_insert_16 (nI w) (nI l) (nI r) (nI (A 8)) k q.1 q.2.1 q.2.2.1 q.2.2.2) wF (nI (A 8), wi, le, re) = some (nI p, W, L, R) ∧ (∀ i, p ≤ i → i < A 8 → W (i + 1) = wi i ∧ L (i + 1) = le i ∧ R (i + 1) = re i) ∧ ∀ i, i < p → W i = wi i ∧ L i = le i ∧ R i = re i := by
    refine wh_up (A 8 - p) (by omega) (fun (d : Nat) (q : Int32 × (Nat → Int32) × (Nat → Int32) × (Nat → Int32)) => q.1 = nI (A 8 - d) ∧ (∀ i, A 8 - d ≤ i → i < A 8 → q.2.1 (i + 1) = wi i ∧ q.2.2.1 (i + 1) = le i ∧ q.2.2.2 (i + 1) = re i) ∧ ∀ i, i < A 8 - d → q.2.1 i = wi i ∧ q.2.2.1 i = le i ∧ q.2.2.2 i = re i) (fun (o : Option ((Int32 × (Nat → Int32) × (Nat → Int32) × (Nat → Int32)))) => ∃ W L R, o = some (nI p, W, L, R) ∧ (∀ i, p ≤ i → i < A 8 → W (i + 1) = wi i ∧ L (i + 1) = le i ∧ R (i + 1) = re i) ∧ ∀ i, i < p → W i = wi i ∧ L i = le i ∧ R i = re i) (fun d q hd hI k hk => ?_) (Nat.zero_le _) ⟨rfl, fun i h1 h2 => by omega, fun i _ => ⟨rfl, rfl, rfl⟩⟩
    obtain ⟨x, P1, P2, P3⟩ := q
    obtain ⟨e1, e2, e3⟩ := hI
    have e1 : x = nI (A 8 - d) := e1
    subst e1
    have e2 : ∀ i, A 8 - d ≤ i → i < A 8 → P1 (i + 1) = wi i ∧ P2 (i + 1) = le i ∧ P3 (i + 1) = re i := e2
    have e3 : ∀ i, i < A 8 - d → P1 i = wi i ∧ P2 i = le i ∧ P3 i = re i := e3
    by_cases hlt : d < A 8 - p
    · have h5 := e3 (A 8 - d - 1) (by omega)
      have h6 := (hq2 (A 8 - d - 1) (by omega)).1
      have h7 := hhigh (A 8 - d - 1) (by omega) (by omega)
      have h10 := hsl (A 8 - d - 1) (by omega)
      have h9 := hk hlt (nI (A 8 - (d + 1)), upd P1 (A 8 - d) (P1 (A 8 - d - 1)), upd P2 (A 8 - d) (P2 (A 8 - d - 1)), upd P3 (A 8 - d) (P3 (A 8 - d - 1))) ⟨rfl, fun i h1 h2 => ?_, fun i h1 => ?_⟩
      · rw [show A 8 - (d + 1) = A 8 - d - 1 by omega] at h9
        have h11 := h5.1.trans h6
        have ht := p_take (wi := P1) (le := P2) (re := P3) (i := A 8 - d) (j := A 8 - d - 1) (by omega) (by omega)
        rw [h11] at ht h9
        simp (disch := omega) only [fa_lit, fa_litL, nI_add, pk_mul, pk_sub, nI_clamp, gi_n, gb_0, gb_1, nI_ltI, nI_leI, nI_eq, lc_lt, lc_gt, lc_ge, lc_le, lc_eq, lN_i, nI_l, lN_add, lN_mul, lN_lt, lN_le, lN_eq, mI_eqR, mI_eqL, mI_ltL, mI_ltR, mI_leL, mI_leR, mI_add, ob1_some, ob2_some, ob3_some, ob4_some, ob5_some, ob6_some, ob7_some, ob8_some, if_true, if_false, if_pos, if_neg, Sum.elim_inl, Sum.elim_inr, un1, un2, un3, un4, un5, Nat.zero_add, Nat.add_zero, Nat.mul_one, Nat.mul_zero, Nat.sub_zero, pk_us, pk_uLs, xoq_l, xoq_r, nI_sle, S_X7_insert_16, h11, ht, mI_add]
        exact h9
      · show upd P1 (A 8 - d) _ (i + 1) = _ ∧ upd P2 (A 8 - d) _ (i + 1) = _ ∧ upd P3 (A 8 - d) _ (i + 1) = _
        by_cases h0 : i + 1 = A 8 - d
        · rw [h0, pk_us, pk_us, pk_us, show A 8 - d - 1 = i by omega]
          exact e3 i (by omega)
        · rw [pk_un h0, pk_un h0, pk_un h0]; exact e2 i (by omega) h2
      · show upd P1 (A 8 - d) _ i = _ ∧ upd P2 (A 8 - d) _ i = _ ∧ upd P3 (A 8 - d) _ i = _
        rw [pk_un (by omega), pk_un (by omega), pk_un (by omega)]; exact e3 i (by omega)
    · have h8 : A 8 - d = p := by omega
      rw [h8] at e2 e3
      refine ⟨P1, P2, P3, ?_, e2, e3⟩
      rw [h8]
      by_cases h0 : p = 0
      · subst h0
        simp (disch := omega) only [fa_lit, fa_litL, nI_add, pk_mul, pk_sub, nI_clamp, gi_n, gb_0, gb_1, nI_ltI, nI_leI, nI_eq, lc_lt, lc_gt, lc_ge, lc_le, lc_eq, lN_i, nI_l, lN_add, lN_mul, lN_lt, lN_le, lN_eq, mI_eqR, mI_eqL, mI_ltL, mI_ltR, mI_leL, mI_leR, mI_add, ob1_some, ob2_some, ob3_some, ob4_some, ob5_some, ob6_some, ob7_some, ob8_some, if_true, if_false, if_pos, if_neg, Sum.elim_inl, Sum.elim_inr, un1, un2, un3, un4, un5, Nat.zero_add, Nat.add_zero, Nat.mul_one, Nat.mul_zero, Nat.sub_zero, pk_us, pk_uLs, xoq_l, xoq_r, nI_sle, S_X7_insert_16]
      · have h5 := (e3 (p - 1) (by omega)).1
        rw [(hq2 (p - 1) (by omega)).1] at h5
        have h7 := hlow (p - 1) (by omega)
        simp (disch := omega) only [fa_lit, fa_litL, nI_add, pk_mul, pk_sub, nI_clamp, gi_n, gb_0, gb_1, nI_ltI, nI_leI, nI_eq, lc_lt, lc_gt, lc_ge, lc_le, lc_eq, lN_i, nI_l, lN_add, lN_mul, lN_lt, lN_le, lN_eq, mI_eqR, mI_eqL, mI_ltL, mI_ltR, mI_leL, mI_leR, mI_add, ob1_some, ob2_some, ob3_some, ob4_some, ob5_some, ob6_some, ob7_some, ob8_some, if_true, if_false, if_pos, if_neg, Sum.elim_inl, Sum.elim_inr, un1, un2, un3, un4, un5, Nat.zero_add, Nat.add_zero, Nat.mul_one, Nat.mul_zero, Nat.sub_zero, pk_us, pk_uLs, xoq_l, xoq_r, nI_sle, S_X7_insert_16, h5]
  refine ⟨upd W p (nI w), upd L p (nI l), upd R p (nI r), ?_, ?_⟩
  · unfold F_X7_insert
    simp only [fa_lit]
    rw [if_pos (nI_lt h8 (by omega)), ob4_s f1]
    simp (disch := omega) only [fa_lit, fa_litL, nI_add, pk_mul, pk_sub, nI_clamp, gi_n, gb_0, gb_1, nI_ltI, nI_leI, nI_eq, lc_lt, lc_gt, lc_ge, lc_le, lc_eq, lN_i, nI_l, lN_add, lN_mul, lN_lt, lN_le, lN_eq, mI_eqR, mI_eqL, mI_ltL, mI_ltR, mI_leL, mI_leR, mI_add, ob1_some, ob2_some, ob3_some, ob4_some, ob5_some, ob6_some, ob7_some, ob8_some, if_true, if_false, if_pos, if_neg, Sum.elim_inl, Sum.elim_inr, un1, un2, un3, un4, un5, Nat.zero_add, Nat.add_zero, Nat.mul_one, Nat.mul_zero, Nat.sub_zero, pk_us, pk_uLs, xoq_l, xoq_r, nI_sle, F_X7_insert_b50]
  · have e8 : isA A p w l r 8 = A 8 + 1 := if_pos rfl
    refine ⟨by rw [e8], fun i hi => ?_⟩
    rw [e8] at hi
    rcases Nat.lt_trichotomy i p with h | h | h
    · have g0 := is_lo (A := A) (p := p) (w := w) (l := l) (r := r) (c := 0) h (by omega) (by omega)
      rw [Nat.add_zero] at g0
      rw [g0, is_lo h (by omega) (by omega), is_lo h (by omega) (by omega), pk_un (by omega), pk_un (by omega), pk_un (by omega), (f3 i h).1, (f3 i h).2.1, (f3 i h).2.2]
      exact hq2 i (by omega)
    · subst h
      rw [pk_us, pk_us, pk_us]
      unfold isA
      refine ⟨?_, ?_, ?_⟩
      · rw [if_neg (by omega), if_pos rfl]
      · rw [if_neg (by omega), if_neg (by omega), if_pos rfl]
      · rw [if_neg (by omega), if_neg (by omega), if_neg (by omega), if_pos rfl]
    · obtain ⟨i', rfl⟩ : ∃ i', i = i' + 1 := ⟨i - 1, by omega⟩
      have g0 := is_hi (A := A) (p := p) (w := w) (l := l) (r := r) (i := i') (c := 0) (by omega) (by omega) (by omega)
      rw [Nat.add_zero, Nat.add_zero] at g0
      rw [g0, is_hi (by omega) (by omega) (by omega), is_hi (by omega) (by omega) (by omega), pk_un (by omega), pk_un (by omega), pk_un (by omega)]
      have f := f2 i' (by omega) (by omega)
      rw [f.1, f.2.1, f.2.2]
      exact hq2 i' (by omega)
theorem p_drop (hV : VA A) (hQ : QR A ns wi le re) {s : Nat} (hs : s < A 8) : ∃ wi' le' re', F_X7_drop (nI s) ns wi le re = some (nI (A 8 - 1), wi', le', re') ∧ QR (dsA A s) (nI (A 8 - 1)) wi' le' re' := by
  obtain ⟨hq, hq2⟩ := hQ
  subst hq
  have hl := hV.nl
  obtain ⟨W, L, R, f1, f2⟩ : ∃ W L R, wh (fun k q => S_X7_drop_2 (nI (A 8)) k q.1 q.2.1 q.2.2.1 q.2.2.2) wF (nI s, wi, le, re) = some (W, L, R) ∧ ∀ i, i < A 8 - 1 → W i = wi (if i < s then i else i + 1) ∧ L i = le (if i < s then i else i + 1) ∧ R i = re (if i < s then i else i + 1) := by
    refine wh_up (A 8 - 1 - s) (by omega) (fun (d : Nat) (q : Int32 × (Nat → Int32) × (Nat → Int32) × (Nat → Int32)) => q.1 = nI (s + d) ∧ (∀ i, i < s + d → q.2.1 i = wi (if i < s then i else i + 1) ∧ q.2.2.1 i = le (if i < s then i else i + 1) ∧ q.2.2.2 i = re (if i < s then i else i + 1)) ∧ ∀ i, s + d ≤ i → q.2.1 i = wi i ∧ q.2.2.1 i = le i ∧ q.2.2.2 i = re i) (fun (o : Option (((Nat → Int32) × (Nat → Int32) × (Nat → Int32)))) => ∃ W L R, o = some (W, L, R) ∧ ∀ i, i < A 8 - 1 → W i = wi (if i < s then i else i + 1) ∧ L i = le (if i < s then i else i + 1) ∧ R i = re (if i < s then i else i + 1)) (fun d q hd hI k hk => ?_) (Nat.zero_le _) ⟨rfl, fun i h => by rw [if_pos (by omega)]; exact ⟨rfl, rfl, rfl⟩, fun i _ => ⟨rfl, rfl, rfl⟩⟩
    obtain ⟨x, P1, P2, P3⟩ := q
    obtain ⟨e1, e2, e3⟩ := hI
    have e1 : x = nI (s + d) := e1
    subst e1
    have e2 : ∀ i, i < s + d → P1 i = wi (if i < s then i else i + 1) ∧ P2 i = le (if i < s then i else i + 1) ∧ P3 i = re (if i < s then i else i + 1) := e2
    have e3 : ∀ i, s + d ≤ i → P1 i = wi i ∧ P2 i = le i ∧ P3 i = re i := e3
    by_cases hlt : d < A 8 - 1 - s
    · have ht := p_take (wi := P1) (le := P2) (re := P3) (i := s + d) (j := s + d + 1) (by omega) (by omega)
      have h9 := hk hlt (nI (s + d + 1), upd P1 (s + d) (P1 (s + d + 1)), upd P2 (s + d) (P2 (s + d + 1)), upd P3 (s + d) (P3 (s + d + 1))) ⟨rfl, fun i h1 => ?_, fun i h1 => ?_⟩
      · simp (disch := omega) only [fa_lit, fa_litL, nI_add, pk_mul, pk_sub, nI_clamp, gi_n, gb_0, gb_1, nI_ltI, nI_leI, nI_eq, lc_lt, lc_gt, lc_ge, lc_le, lc_eq, lN_i, nI_l, lN_add, lN_mul, lN_lt, lN_le, lN_eq, mI_eqR, mI_eqL, mI_ltL, mI_ltR, mI_leL, mI_leR, mI_add, ob1_some, ob2_some, ob3_some, ob4_some, ob5_some, ob6_some, ob7_some, ob8_some, if_true, if_false, if_pos, if_neg, Sum.elim_inl, Sum.elim_inr, un1, un2, un3, un4, un5, Nat.zero_add, Nat.add_zero, Nat.mul_one, Nat.mul_zero, Nat.sub_zero, pk_us, pk_uLs, xoq_l, xoq_r, nI_sle, S_X7_drop_2, ht]
        exact h9
      · show upd P1 (s + d) _ i = _ ∧ upd P2 (s + d) _ i = _ ∧ upd P3 (s + d) _ i = _
        by_cases h0 : i = s + d
        · subst h0
          rw [pk_us, pk_us, pk_us, if_neg (by omega)]
          exact e3 (s + d + 1) (by omega)
        · rw [pk_un h0, pk_un h0, pk_un h0]; exact e2 i (by omega)
      · show upd P1 (s + d) _ i = _ ∧ upd P2 (s + d) _ i = _ ∧ upd P3 (s + d) _ i = _
        rw [pk_un (by omega), pk_un (by omega), pk_un (by omega)]; exact e3 i (by omega)
    · refine ⟨P1, P2, P3, ?_, fun i hi => e2 i (by omega)⟩
      simp (disch := omega) only [fa_lit, fa_litL, nI_add, pk_mul, pk_sub, nI_clamp, gi_n, gb_0, gb_1, nI_ltI, nI_leI, nI_eq, lc_lt, lc_gt, lc_ge, lc_le, lc_eq, lN_i, nI_l, lN_add, lN_mul, lN_lt, lN_le, lN_eq, mI_eqR, mI_eqL, mI_ltL, mI_ltR, mI_leL, mI_leR, mI_add, ob1_some, ob2_some, ob3_some, ob4_some, ob5_some, ob6_some, ob7_some, ob8_some, if_true, if_false, if_pos, if_neg, Sum.elim_inl, Sum.elim_inr, un1, un2, un3, un4, un5, Nat.zero_add, Nat.add_zero, Nat.mul_one, Nat.mul_zero, Nat.sub_zero, pk_us, pk_uLs, xoq_l, xoq_r, nI_sle, S_X7_drop_2]
  refine ⟨W, L, R, ?_, ?_⟩
  · unfold F_X7_drop
    simp only [fa_lit]
    rw [ob3_s f1, pk_sub (by omega)]
  · have e8 : dsA A s 8 = A 8 - 1 := if_pos rfl
    refine ⟨by rw [e8], fun i hi => ?_⟩
    rw [e8] at hi
    have f0 := ds_at hs hi (c := 0) (by omega)
    rw [Nat.add_zero, Nat.add_zero] at f0
    rw [f0, ds_at hs hi (c := 1) (by omega), ds_at hs hi (c := 2) (by omega), (f2 i hi).1, (f2 i hi).2.1, (f2 i hi).2.2]
    exact hq2 _ (by split <;> omega)
/-! the reference -/
theorem q_putsSlot (hV : VA A) (hM : MR A a) {w l r : Nat} (h8 : A 8 < 5) (hw : w ≤ 9999) (hl : l ≤ 300) (hr : r ≤ 999) :
    ∃ a', F_X11_putsSlot 499 (nI w) (nI l) (nI r) a = some (nI (plw A w (A 8)), a') ∧ MR (isA A (plw A w (A 8)) w l r) a' := by
  have hp := plw_le A w (A 8)
  obtain ⟨p, hpe⟩ : ∃ p, p = plw A w (A 8) := ⟨_, rfl⟩
  have hlow := fun i => plw_ge (A := A) hV.2.2.1.2 (w := w) (i := i)
  have hhigh := plw_lt (A := A) (w := w) (A 8)
  rw [← hpe] at hp hhigh ⊢
  simp only [← hpe] at hlow
  have hsl : ∀ i, i < A 8 → A (394 + 3 * i) ≤ 9999 := fun i hi => (hV.slot hi).1
  have f1 : wh (fun k q => S_X11_putsSlot_3 499 (nI w) (nI l) (nI r) a k q) wF (nI 0) = some (nI p) := by
    refine wh_up p (by omega) (fun (j : Nat) (q : Int32) => q = nI j) (fun (o : Option ((Int32))) => o = some (nI p)) (fun j q hj hI k hk => ?_) (Nat.zero_le _) rfl
    have hI : q = nI j := hI
    subst hI
    by_cases hlt : j < p
    · have h5 := hlow j hlt
      have h9 := hk hlt (nI (j + 1)) rfl
      simp (disch := omega) only [fa_lit, fa_litL, nI_add, pk_mul, pk_sub, nI_clamp, gi_n, gb_0, gb_1, nI_ltI, nI_leI, nI_eq, lc_lt, lc_gt, lc_ge, lc_le, lc_eq, lN_i, nI_l, lN_add, lN_mul, lN_lt, lN_le, lN_eq, mI_eqR, mI_eqL, mI_ltL, mI_ltR, mI_leL, mI_leR, mI_add, ob1_some, ob2_some, ob3_some, ob4_some, ob5_some, ob6_some, ob7_some, ob8_some, if_true, if_false, if_pos, if_neg, Sum.elim_inl, Sum.elim_inr, un1, un2, un3, un4, un5, Nat.zero_add, Nat.add_zero, Nat.mul_one, Nat.mul_zero, Nat.sub_zero, pk_us, pk_uLs, xoq_l, xoq_r, nI_sle, S_X11_putsSlot_3, hM.at]
      exact h9
    · have h8 : j = p := by omega
      subst h8
      by_cases h0 : j < A 8
      · have h5 := hhigh j (Nat.le_refl _) h0
        have h6 := hsl j h0
        simp (disch := omega) only [fa_lit, fa_litL, nI_add, pk_mul, pk_sub, nI_clamp, gi_n, gb_0, gb_1, nI_ltI, nI_leI, nI_eq, lc_lt, lc_gt, lc_ge, lc_le, lc_eq, lN_i, nI_l, lN_add, lN_mul, lN_lt, lN_le, lN_eq, mI_eqR, mI_eqL, mI_ltL, mI_ltR, mI_leL, mI_leR, mI_add, ob1_some, ob2_some, ob3_some, ob4_some, ob5_some, ob6_some, ob7_some, ob8_some, if_true, if_false, if_pos, if_neg, Sum.elim_inl, Sum.elim_inr, un1, un2, un3, un4, un5, Nat.zero_add, Nat.add_zero, Nat.mul_one, Nat.mul_zero, Nat.sub_zero, pk_us, pk_uLs, xoq_l, xoq_r, nI_sle, S_X11_putsSlot_3, hM.at]
      · simp (disch := omega) only [fa_lit, fa_litL, nI_add, pk_mul, pk_sub, nI_clamp, gi_n, gb_0, gb_1, nI_ltI, nI_leI, nI_eq, lc_lt, lc_gt, lc_ge, lc_le, lc_eq, lN_i, nI_l, lN_add, lN_mul, lN_lt, lN_le, lN_eq, mI_eqR, mI_eqL, mI_ltL, mI_ltR, mI_leL, mI_leR, mI_add, ob1_some, ob2_some, ob3_some, ob4_some, ob5_some, ob6_some, ob7_some, ob8_some, if_true, if_false, if_pos, if_neg, Sum.elim_inl, Sum.elim_inr, un1, un2, un3, un4, un5, Nat.zero_add, Nat.add_zero, Nat.mul_one, Nat.mul_zero, Nat.sub_zero, pk_us, pk_uLs, xoq_l, xoq_r, nI_sle, S_X11_putsSlot_3, hM.at]
  obtain ⟨a1, f2, f3, f4⟩ : ∃ a1, wh (fun k q => S_X11_putsSlot_51 499 (nI w) (nI l) (nI r) (nI p) k q.1 q.2) wF (nI (394 + 3 * A 8 - 1), a) = some a1 ∧ (∀ j, 394 + 3 * p ≤ j → j < 394 + 3 * A 8 → a1 (j + 3) = lN (A j)) ∧ ∀ j, j < 499 → j < 394 + 3 * p ∨ 394 + 3 * A 8 + 3 ≤ j → a1 j = lN (A j) := by
    refine wh_up (3 * A 8 - 3 * p) (by omega) (fun (d : Nat) (q : Int32 × (Nat → Int64)) => q.1 = nI (394 + 3 * A 8 - 1 - d) ∧ (∀ j, 394 + 3 * A 8 - d ≤ j → j < 394 + 3 * A 8 → q.2 (j + 3) = lN (A j)) ∧ ∀ j, j < 499 → j < 394 + 3 * A 8 + 3 - d ∨ 394 + 3 * A 8 + 3 ≤ j → q.2 j = lN (A j)) (fun (o : Option (((Nat → Int64)))) => ∃ a1, o = some a1 ∧ (∀ j, 394 + 3 * p ≤ j → j < 394 + 3 * A 8 → a1 (j + 3) = lN (A j)) ∧ ∀ j, j < 499 → j < 394 + 3 * p ∨ 394 + 3 * A 8 + 3 ≤ j → a1 j = lN (A j)) (fun d q hd hI k hk => ?_) (Nat.zero_le _) ⟨rfl, fun j h1 h2 => by omega, fun j h1 _ => hM j h1⟩
    obtain ⟨x, P⟩ := q
    obtain ⟨e1, e2, e3⟩ := hI
    have e1 : x = nI (394 + 3 * A 8 - 1 - d) := e1
    subst e1
    have e2 : ∀ j, 394 + 3 * A 8 - d ≤ j → j < 394 + 3 * A 8 → P (j + 3) = lN (A j) := e2
    have e3 : ∀ j, j < 499 → j < 394 + 3 * A 8 + 3 - d ∨ 394 + 3 * A 8 + 3 ≤ j → P j = lN (A j) := e3
    by_cases hlt : d < 3 * A 8 - 3 * p
    · have h5 := e3 (394 + 3 * A 8 - 1 - d) (by omega) (by omega)
      have h9 := hk hlt (nI (394 + 3 * A 8 - 1 - (d + 1)), vp_updL P (394 + 3 * A 8 - 1 - d + 3) (lN (A (394 + 3 * A 8 - 1 - d)))) ⟨rfl, fun j h1 h2 => ?_, fun j h1 h2 => ?_⟩
      · rw [show 394 + 3 * A 8 - 1 - (d + 1) = 394 + 3 * A 8 - 1 - d - 1 by omega] at h9
        simp (disch := omega) only [fa_lit, fa_litL, nI_add, pk_mul, pk_sub, nI_clamp, gi_n, gb_0, gb_1, nI_ltI, nI_leI, nI_eq, lc_lt, lc_gt, lc_ge, lc_le, lc_eq, lN_i, nI_l, lN_add, lN_mul, lN_lt, lN_le, lN_eq, mI_eqR, mI_eqL, mI_ltL, mI_ltR, mI_leL, mI_leR, mI_add, ob1_some, ob2_some, ob3_some, ob4_some, ob5_some, ob6_some, ob7_some, ob8_some, if_true, if_false, if_pos, if_neg, Sum.elim_inl, Sum.elim_inr, un1, un2, un3, un4, un5, Nat.zero_add, Nat.add_zero, Nat.mul_one, Nat.mul_zero, Nat.sub_zero, pk_us, pk_uLs, xoq_l, xoq_r, nI_sle, S_X11_putsSlot_51, h5, mI_add]
        exact h9
      · show vp_updL P _ _ (j + 3) = _
        by_cases h0 : j = 394 + 3 * A 8 - 1 - d
        · subst h0; exact pk_uLs
        · rw [pk_uLn (by omega)]; exact e2 j (by omega) h2
      · show vp_updL P _ _ j = _
        rw [pk_uLn (by omega)]; exact e3 j h1 (by omega)
    · refine ⟨P, ?_, fun j h1 h2 => e2 j (by omega) h2, fun j h1 h2 => e3 j h1 (by omega)⟩
      simp (disch := omega) only [fa_lit, fa_litL, nI_add, pk_mul, pk_sub, nI_clamp, gi_n, gb_0, gb_1, nI_ltI, nI_leI, nI_eq, lc_lt, lc_gt, lc_ge, lc_le, lc_eq, lN_i, nI_l, lN_add, lN_mul, lN_lt, lN_le, lN_eq, mI_eqR, mI_eqL, mI_ltL, mI_ltR, mI_leL, mI_leR, mI_add, ob1_some, ob2_some, ob3_some, ob4_some, ob5_some, ob6_some, ob7_some, ob8_some, if_true, if_false, if_pos, if_neg, Sum.elim_inl, Sum.elim_inr, un1, un2, un3, un4, un5, Nat.zero_add, Nat.add_zero, Nat.mul_one, Nat.mul_zero, Nat.sub_zero, pk_us, pk_uLs, xoq_l, xoq_r, nI_sle, S_X11_putsSlot_51]
  refine ⟨vp_updL (vp_updL (vp_updL (vp_updL a1 (394 + 3 * p) (lN w)) (394 + 3 * p + 1) (lN l)) (394 + 3 * p + 2) (lN r)) 8 (lN (A 8 + 1)), ?_, ?_⟩
  · have h8' := f4 8 (by omega) (by omega)
    have e8 : vp_updL (vp_updL (vp_updL a1 (394 + 3 * p) (lN w)) (394 + 3 * p + 1) (lN l)) (394 + 3 * p + 2) (lN r) 8 = lN (A 8) := by
      rw [pk_uLn (by omega), pk_uLn (by omega), pk_uLn (by omega)]; exact h8'
    unfold F_X11_putsSlot
    simp only [fa_lit]
    rw [ob1_s f1]
    simp (disch := omega) only [fa_lit, fa_litL, nI_add, pk_mul, pk_sub, nI_clamp, gi_n, gb_0, gb_1, nI_ltI, nI_leI, nI_eq, lc_lt, lc_gt, lc_ge, lc_le, lc_eq, lN_i, nI_l, lN_add, lN_mul, lN_lt, lN_le, lN_eq, mI_eqR, mI_eqL, mI_ltL, mI_ltR, mI_leL, mI_leR, mI_add, ob1_some, ob2_some, ob3_some, ob4_some, ob5_some, ob6_some, ob7_some, ob8_some, if_true, if_false, if_pos, if_neg, Sum.elim_inl, Sum.elim_inr, un1, un2, un3, un4, un5, Nat.zero_add, Nat.add_zero, Nat.mul_one, Nat.mul_zero, Nat.sub_zero, pk_us, pk_uLs, xoq_l, xoq_r, nI_sle, F_X11_putsSlot_b36, hM.at]
    rw [ob1_s f2]
    simp (disch := omega) only [fa_lit, fa_litL, nI_add, pk_mul, pk_sub, nI_clamp, gi_n, gb_0, gb_1, nI_ltI, nI_leI, nI_eq, lc_lt, lc_gt, lc_ge, lc_le, lc_eq, lN_i, nI_l, lN_add, lN_mul, lN_lt, lN_le, lN_eq, mI_eqR, mI_eqL, mI_ltL, mI_ltR, mI_leL, mI_leR, mI_add, ob1_some, ob2_some, ob3_some, ob4_some, ob5_some, ob6_some, ob7_some, ob8_some, if_true, if_false, if_pos, if_neg, Sum.elim_inl, Sum.elim_inr, un1, un2, un3, un4, un5, Nat.zero_add, Nat.add_zero, Nat.mul_one, Nat.mul_zero, Nat.sub_zero, pk_us, pk_uLs, xoq_l, xoq_r, nI_sle, e8]
  · intro j hj
    unfold isA
    by_cases h0 : j = 8
    · subst h0; rw [pk_uLs, if_pos rfl]
    · rw [pk_uLn h0, if_neg h0]
      by_cases h1 : j = 394 + 3 * p
      · subst h1; rw [pk_uLn (by omega), pk_uLn (by omega), pk_uLs, if_pos rfl]
      · by_cases h2 : j = 394 + 3 * p + 1
        · subst h2; rw [pk_uLn (by omega), pk_uLs, if_neg h1, if_pos rfl]
        · by_cases h3 : j = 394 + 3 * p + 2
          · subst h3; rw [pk_uLs, if_neg h1, if_neg h2, if_pos rfl]
          · rw [pk_uLn h3, pk_uLn h2, pk_uLn h1, if_neg h1, if_neg h2, if_neg h3]
            by_cases h4 : 394 + 3 * p + 3 ≤ j ∧ j < 394 + 3 * A 8 + 3
            · rw [if_pos h4]
              have := f3 (j - 3) (by omega) (by omega)
              rw [show j - 3 + 3 = j by omega] at this
              exact this
            · rw [if_neg h4]; exact f4 j hj (by omega)
theorem q_takesSlot (hV : VA A) (hM : MR A a) {s : Nat} (hs : s < A 8) : ∃ a', F_X11_takesSlot (nI s) a = some a' ∧ MR (dsA A s) a' := by
  have hl := hV.nl
  obtain ⟨a1, f1, f2, f3⟩ : ∃ a1, wh (fun k q => S_X11_takesSlot_19 (nI (A 8 - 1)) k q.1 q.2) wF (nI (394 + 3 * s), a) = some a1 ∧ (∀ j, 394 + 3 * s ≤ j → j < 394 + 3 * (A 8 - 1) → a1 j = lN (A (j + 3))) ∧ ∀ j, j < 499 → j < 394 + 3 * s ∨ 394 + 3 * (A 8 - 1) ≤ j → a1 j = lN (A j) := by
    refine wh_up (3 * (A 8 - 1) - 3 * s) (by omega) (fun (d : Nat) (q : Int32 × (Nat → Int64)) => q.1 = nI (394 + 3 * s + d) ∧ (∀ j, 394 + 3 * s ≤ j → j < 394 + 3 * s + d → q.2 j = lN (A (j + 3))) ∧ ∀ j, j < 499 → j < 394 + 3 * s ∨ 394 + 3 * s + d ≤ j → q.2 j = lN (A j)) (fun (o : Option (((Nat → Int64)))) => ∃ a1, o = some a1 ∧ (∀ j, 394 + 3 * s ≤ j → j < 394 + 3 * (A 8 - 1) → a1 j = lN (A (j + 3))) ∧ ∀ j, j < 499 → j < 394 + 3 * s ∨ 394 + 3 * (A 8 - 1) ≤ j → a1 j = lN (A j)) (fun d q hd hI k hk => ?_) (Nat.zero_le _) ⟨rfl, fun j h1 h2 => by omega, fun j h1 _ => hM j h1⟩
    obtain ⟨x, P⟩ := q
    obtain ⟨e1, e2, e3⟩ := hI
    have e1 : x = nI (394 + 3 * s + d) := e1
    subst e1
    have e2 : ∀ j, 394 + 3 * s ≤ j → j < 394 + 3 * s + d → P j = lN (A (j + 3)) := e2
    have e3 : ∀ j, j < 499 → j < 394 + 3 * s ∨ 394 + 3 * s + d ≤ j → P j = lN (A j) := e3
    by_cases hlt : d < 3 * (A 8 - 1) - 3 * s
    · have h5 := e3 (394 + 3 * s + d + 3) (by omega) (by omega)
      have h9 := hk hlt (nI (394 + 3 * s + d + 1), vp_updL P (394 + 3 * s + d) (lN (A (394 + 3 * s + d + 3)))) ⟨rfl, fun j h1 h2 => ?_, fun j h1 h2 => ?_⟩
      · simp (disch := omega) only [fa_lit, fa_litL, nI_add, pk_mul, pk_sub, nI_clamp, gi_n, gb_0, gb_1, nI_ltI, nI_leI, nI_eq, lc_lt, lc_gt, lc_ge, lc_le, lc_eq, lN_i, nI_l, lN_add, lN_mul, lN_lt, lN_le, lN_eq, mI_eqR, mI_eqL, mI_ltL, mI_ltR, mI_leL, mI_leR, mI_add, ob1_some, ob2_some, ob3_some, ob4_some, ob5_some, ob6_some, ob7_some, ob8_some, if_true, if_false, if_pos, if_neg, Sum.elim_inl, Sum.elim_inr, un1, un2, un3, un4, un5, Nat.zero_add, Nat.add_zero, Nat.mul_one, Nat.mul_zero, Nat.sub_zero, pk_us, pk_uLs, xoq_l, xoq_r, nI_sle, S_X11_takesSlot_19, h5]
        exact h9
      · show vp_updL P _ _ j = _
        by_cases h0 : j = 394 + 3 * s + d
        · subst h0; exact pk_uLs
        · rw [pk_uLn h0]; exact e2 j h1 (by omega)
      · show vp_updL P _ _ j = _
        rw [pk_uLn (by omega)]; exact e3 j h1 (by omega)
    · refine ⟨P, ?_, fun j h1 h2 => e2 j h1 (by omega), fun j h1 h2 => e3 j h1 (by omega)⟩
      simp (disch := omega) only [fa_lit, fa_litL, nI_add, pk_mul, pk_sub, nI_clamp, gi_n, gb_0, gb_1, nI_ltI, nI_leI, nI_eq, lc_lt, lc_gt, lc_ge, lc_le, lc_eq, lN_i, nI_l, lN_add, lN_mul, lN_lt, lN_le, lN_eq, mI_eqR, mI_eqL, mI_ltL, mI_ltR, mI_leL, mI_leR, mI_add, ob1_some, ob2_some, ob3_some, ob4_some, ob5_some, ob6_some, ob7_some, ob8_some, if_true, if_false, if_pos, if_neg, Sum.elim_inl, Sum.elim_inr, un1, un2, un3, un4, un5, Nat.zero_add, Nat.add_zero, Nat.mul_one, Nat.mul_zero, Nat.sub_zero, pk_us, pk_uLs, xoq_l, xoq_r, nI_sle, S_X11_takesSlot_19]
  obtain ⟨a2, f4, f5, f6⟩ : ∃ a2, wh (fun k q => S_X11_takesSlot_58 (nI (A 8 - 1)) k q.1 q.2) wF (nI (394 + 3 * (A 8 - 1)), a1) = some a2 ∧ (∀ j, 394 + 3 * (A 8 - 1) ≤ j → j < 394 + 3 * (A 8 - 1) + 3 → a2 j = lN 0) ∧ ∀ j, j < 394 + 3 * (A 8 - 1) ∨ 394 + 3 * (A 8 - 1) + 3 ≤ j → a2 j = a1 j := by
    refine wh_up 3 (by omega) (fun (d : Nat) (q : Int32 × (Nat → Int64)) => q.1 = nI (394 + 3 * (A 8 - 1) + d) ∧ (∀ j, 394 + 3 * (A 8 - 1) ≤ j → j < 394 + 3 * (A 8 - 1) + d → q.2 j = lN 0) ∧ ∀ j, j < 394 + 3 * (A 8 - 1) ∨ 394 + 3 * (A 8 - 1) + d ≤ j → q.2 j = a1 j) (fun (o : Option (((Nat → Int64)))) => ∃ a2, o = some a2 ∧ (∀ j, 394 + 3 * (A 8 - 1) ≤ j → j < 394 + 3 * (A 8 - 1) + 3 → a2 j = lN 0) ∧ ∀ j, j < 394 + 3 * (A 8 - 1) ∨ 394 + 3 * (A 8 - 1) + 3 ≤ j → a2 j = a1 j) (fun d q hd hI k hk => ?_) (Nat.zero_le _) ⟨rfl, fun j h1 h2 => by omega, fun _ _ => rfl⟩
    obtain ⟨x, P⟩ := q
    obtain ⟨e1, e2, e3⟩ := hI
    have e1 : x = nI (394 + 3 * (A 8 - 1) + d) := e1
    subst e1
    have e2 : ∀ j, 394 + 3 * (A 8 - 1) ≤ j → j < 394 + 3 * (A 8 - 1) + d → P j = lN 0 := e2
    have e3 : ∀ j, j < 394 + 3 * (A 8 - 1) ∨ 394 + 3 * (A 8 - 1) + d ≤ j → P j = a1 j := e3
    by_cases hlt : d < 3
    · have h9 := hk hlt (nI (394 + 3 * (A 8 - 1) + d + 1), vp_updL P (394 + 3 * (A 8 - 1) + d) (lN 0)) ⟨rfl, fun j h1 h2 => ?_, fun j h1 => ?_⟩
      · simp (disch := omega) only [fa_lit, fa_litL, nI_add, pk_mul, pk_sub, nI_clamp, gi_n, gb_0, gb_1, nI_ltI, nI_leI, nI_eq, lc_lt, lc_gt, lc_ge, lc_le, lc_eq, lN_i, nI_l, lN_add, lN_mul, lN_lt, lN_le, lN_eq, mI_eqR, mI_eqL, mI_ltL, mI_ltR, mI_leL, mI_leR, mI_add, ob1_some, ob2_some, ob3_some, ob4_some, ob5_some, ob6_some, ob7_some, ob8_some, if_true, if_false, if_pos, if_neg, Sum.elim_inl, Sum.elim_inr, un1, un2, un3, un4, un5, Nat.zero_add, Nat.add_zero, Nat.mul_one, Nat.mul_zero, Nat.sub_zero, pk_us, pk_uLs, xoq_l, xoq_r, nI_sle, S_X11_takesSlot_58]
        exact h9
      · show vp_updL P _ _ j = _
        by_cases h0 : j = 394 + 3 * (A 8 - 1) + d
        · subst h0; exact pk_uLs
        · rw [pk_uLn h0]; exact e2 j h1 (by omega)
      · show vp_updL P _ _ j = _
        rw [pk_uLn (by omega)]; exact e3 j (by omega)
    · refine ⟨P, ?_, fun j h1 h2 => e2 j h1 (by omega), fun j h1 => e3 j (by omega)⟩
      simp (disch := omega) only [fa_lit, fa_litL, nI_add, pk_mul, pk_sub, nI_clamp, gi_n, gb_0, gb_1, nI_ltI, nI_leI, nI_eq, lc_lt, lc_gt, lc_ge, lc_le, lc_eq, lN_i, nI_l, lN_add, lN_mul, lN_lt, lN_le, lN_eq, mI_eqR, mI_eqL, mI_ltL, mI_ltR, mI_leL, mI_leR, mI_add, ob1_some, ob2_some, ob3_some, ob4_some, ob5_some, ob6_some, ob7_some, ob8_some, if_true, if_false, if_pos, if_neg, Sum.elim_inl, Sum.elim_inr, un1, un2, un3, un4, un5, Nat.zero_add, Nat.add_zero, Nat.mul_one, Nat.mul_zero, Nat.sub_zero, pk_us, pk_uLs, xoq_l, xoq_r, nI_sle, S_X11_takesSlot_58]
  refine ⟨vp_updL a2 8 (lN (A 8 - 1)), ?_, fun j hj => ?_⟩
  · unfold F_X11_takesSlot
    simp (disch := omega) only [fa_lit, fa_litL, nI_add, pk_mul, pk_sub, nI_clamp, gi_n, gb_0, gb_1, nI_ltI, nI_leI, nI_eq, lc_lt, lc_gt, lc_ge, lc_le, lc_eq, lN_i, nI_l, lN_add, lN_mul, lN_lt, lN_le, lN_eq, mI_eqR, mI_eqL, mI_ltL, mI_ltR, mI_leL, mI_leR, mI_add, ob1_some, ob2_some, ob3_some, ob4_some, ob5_some, ob6_some, ob7_some, ob8_some, if_true, if_false, if_pos, if_neg, Sum.elim_inl, Sum.elim_inr, un1, un2, un3, un4, un5, Nat.zero_add, Nat.add_zero, Nat.mul_one, Nat.mul_zero, Nat.sub_zero, pk_us, pk_uLs, xoq_l, xoq_r, nI_sle, hM.at]
    rw [ob1_s f1, ob1_s f4]
  · unfold dsA
    by_cases h0 : j = 8
    · subst h0; rw [pk_uLs, if_pos rfl]
    · rw [pk_uLn h0, if_neg h0]
      by_cases h1 : 394 + 3 * s ≤ j ∧ j < 394 + 3 * (A 8 - 1)
      · rw [if_pos h1, f6 j (by omega), f2 j h1.1 h1.2]
      · rw [if_neg h1]
        by_cases h2 : 394 + 3 * (A 8 - 1) ≤ j ∧ j < 394 + 3 * (A 8 - 1) + 3
        · rw [if_pos h2, f5 j h2.1 h2.2]
        · rw [if_neg h2, f6 j (by omega), f3 j hj (by omega)]
end
