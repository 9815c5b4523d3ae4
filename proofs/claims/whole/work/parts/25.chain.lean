/-! ===== the table's meaning: chapters one behind another, the greatest price ===== -/
theorem dTb_st {n : Nat} {ok : Nat → Nat → Bool} {g : Nat → Int} {d s : Nat} (h : n ≤ s + d) : ∀ i, d + i ≤ n → dTb n ok g (d + i) s = dTb n ok g d s := by
  intro i
  induction i with
  | zero => intro _; rfl
  | succ i ih =>
    intro hi
    rw [show d + (i + 1) = (d + i) + 1 from rfl, dTb_n _ _ _ (by omega)]
    exact ih (by omega)
theorem dIn_congr {n : Nat} {ok : Nat → Nat → Bool} {g : Nat → Int} {T T' : Nat → Option (Int × Nat × Nat)} {s : Nat} (h : ∀ t, s < t → t < n → T t = T' t) : ∀ j, s + j ≤ n → dIn n ok g T s j = dIn n ok g T' s j := by
  intro j
  induction j with
  | zero => intro _; rfl
  | succ j ih =>
    intro hj
    rw [dIn_s, dIn_s, ih (by omega)]
    have e : dCe n g T (s + j) = dCe n g T' (s + j) := by
      unfold dCe
      by_cases h1 : s + j + 1 = n
      · rw [if_pos h1, if_pos h1]
      · rw [if_neg h1, if_neg h1, h (s + j + 1) (by omega) (by omega)]
    rw [e]
theorem dTb_eq {n : Nat} {ok : Nat → Nat → Bool} {g : Nat → Int} {s : Nat} (hs : s < n) : dTb n ok g n s = dIn n ok g (dTb n ok g n) s (n - s) := by
  have h1 := dTb_st (n := n) (ok := ok) (g := g) (d := n - s) (s := s) (by omega) s (by omega)
  rw [show n - s + s = n by omega] at h1
  rw [h1, show n - s = (n - s - 1) + 1 by omega]
  have h2 := dTb_0 n ok g (n - s - 1)
  rw [show n - (n - s - 1 + 1) = s by omega] at h2
  rw [h2]
  refine dIn_congr (fun t h3 h4 => ?_) _ (by omega)
  have h5 := dTb_st (n := n) (ok := ok) (g := g) (d := n - s - 1) (s := t) (by omega) (s + 1) (by omega)
  rw [show n - s - 1 + (s + 1) = n by omega] at h5
  exact h5.symm
theorem dIn_some {n : Nat} {ok : Nat → Nat → Bool} {g : Nat → Int} {T : Nat → Option (Int × Nat × Nat)} {s : Nat} {x : Int × Nat × Nat} : ∀ j, dIn n ok g T s j = some x → ∃ i, i < j ∧ ok s (s + i) = true ∧ dCe n g T (s + i) = some x := by
  intro j
  induction j with
  | zero => intro h; cases h
  | succ j ih =>
    intro h
    rw [dIn_s] at h
    by_cases h1 : ok s (s + j) = true
    · rw [if_pos h1] at h
      rcases dMg_or (dIn n ok g T s j) (dCe n g T (s + j)) with h2 | h2
      · rw [h2] at h
        obtain ⟨i, h3, h4⟩ := ih h
        exact ⟨i, by omega, h4⟩
      · rw [h2] at h
        exact ⟨j, by omega, h1, h⟩
    · rw [if_neg h1] at h
      obtain ⟨i, h3, h4⟩ := ih h
      exact ⟨i, by omega, h4⟩
/-- as good as, or better -/
def dGe (x : Int × Nat × Nat) (w : Int) (c : Nat) : Prop := w < x.1 ∨ (w = x.1 ∧ x.2.1 ≤ c)
theorem dGe.trans {x y : Int × Nat × Nat} {w : Int} {c : Nat} (h : dGe x y.1 y.2.1) (h2 : dGe y w c) : dGe x w c := by
  unfold dGe at *
  omega
theorem dMg_l {o q : Option (Int × Nat × Nat)} {x : Int × Nat × Nat} (h : o = some x) : ∃ y, dMg o q = some y ∧ dGe y x.1 x.2.1 := by
  subst h
  cases q with
  | none => exact ⟨x, rfl, Or.inr ⟨rfl, Nat.le_refl _⟩⟩
  | some y =>
    by_cases h : x.1 < y.1 ∨ (y.1 = x.1 ∧ y.2.1 < x.2.1)
    · refine ⟨y, if_pos h, ?_⟩
      unfold dGe
      omega
    · exact ⟨x, if_neg h, Or.inr ⟨rfl, Nat.le_refl _⟩⟩
theorem dMg_r {o q : Option (Int × Nat × Nat)} {x : Int × Nat × Nat} (h : q = some x) : ∃ y, dMg o q = some y ∧ dGe y x.1 x.2.1 := by
  subst h
  cases o with
  | none => exact ⟨x, rfl, Or.inr ⟨rfl, Nat.le_refl _⟩⟩
  | some y =>
    by_cases h : y.1 < x.1 ∨ (x.1 = y.1 ∧ x.2.1 < y.2.1)
    · exact ⟨x, if_pos h, Or.inr ⟨rfl, Nat.le_refl _⟩⟩
    · refine ⟨y, if_neg h, ?_⟩
      unfold dGe
      omega
theorem dIn_max {n : Nat} {ok : Nat → Nat → Bool} {g : Nat → Int} {T : Nat → Option (Int × Nat × Nat)} {s i : Nat} {y : Int × Nat × Nat} (hok : ok s (s + i) = true) (hy : dCe n g T (s + i) = some y) : ∀ j, i < j → ∃ x, dIn n ok g T s j = some x ∧ dGe x y.1 y.2.1 := by
  intro j
  induction j with
  | zero => intro h; omega
  | succ j ih =>
    intro h
    rw [dIn_s]
    by_cases h1 : i = j
    · subst h1
      rw [if_pos hok]
      exact dMg_r hy
    · obtain ⟨x, g1, g2⟩ := ih (by omega)
      by_cases h2 : ok s (s + j) = true
      · rw [if_pos h2]
        obtain ⟨z, g3, g4⟩ := dMg_l (q := dCe n g T (s + j)) g1
        exact ⟨z, g3, g4.trans g2⟩
      · rw [if_neg h2]
        exact ⟨x, g1, g2⟩
theorem dCe_some {n e : Nat} {g : Nat → Int} {T : Nat → Option (Int × Nat × Nat)} {x : Int × Nat × Nat} (he : e < n) (h : dCe n g T e = some x) : x.2.2 = e ∧ ((e + 1 = n ∧ x.1 = 0 ∧ x.2.1 = 0) ∨ (e + 1 < n ∧ ∃ y, T (e + 1) = some y ∧ x.2.1 = y.2.1 + 1 ∧ x.1 = g e + y.1)) := by
  unfold dCe at h
  by_cases h1 : e + 1 = n
  · rw [if_pos h1] at h
    cases h
    exact ⟨rfl, Or.inl ⟨h1, rfl, rfl⟩⟩
  · rw [if_neg h1] at h
    cases hT : T (e + 1) with
    | none => rw [hT] at h; cases h
    | some y =>
      rw [hT] at h
      cases h
      exact ⟨rfl, Or.inr ⟨by omega, y, rfl, rfl, rfl⟩⟩
/-- what a row of the table says -/
theorem tb_some {n : Nat} {ok : Nat → Nat → Bool} {g : Nat → Int} {s : Nat} {x : Int × Nat × Nat} (hs : s < n) (h : dTb n ok g n s = some x) : s ≤ x.2.2 ∧ x.2.2 < n ∧ ok s x.2.2 = true ∧ ((x.2.2 + 1 = n ∧ x.1 = 0 ∧ x.2.1 = 0) ∨ (x.2.2 + 1 < n ∧ ∃ y, dTb n ok g n (x.2.2 + 1) = some y ∧ x.2.1 = y.2.1 + 1 ∧ x.1 = g x.2.2 + y.1)) := by
  rw [dTb_eq hs] at h
  obtain ⟨i, h1, h2, h3⟩ := dIn_some _ h
  have h4 := dCe_some (by omega) h3
  rw [h4.1]
  exact ⟨by omega, by omega, h2, h4.2⟩
theorem tb_end {n : Nat} {ok : Nat → Nat → Bool} {g : Nat → Int} {s e : Nat} (hs : s ≤ e) (he : e + 1 = n) (hok : ok s e = true) : ∃ x, dTb n ok g n s = some x ∧ dGe x 0 0 := by
  rw [dTb_eq (by omega)]
  have h1 : dCe n g (dTb n ok g n) (s + (e - s)) = some (0, 0, e) := by
    rw [show s + (e - s) = e by omega]
    exact if_pos he
  exact dIn_max (y := (0, 0, e)) (by rw [show s + (e - s) = e by omega]; exact hok) h1 (n - s) (by omega)
theorem tb_next {n : Nat} {ok : Nat → Nat → Bool} {g : Nat → Int} {s e : Nat} {y : Int × Nat × Nat} (hs : s ≤ e) (he : e + 1 < n) (hok : ok s e = true) (hy : dTb n ok g n (e + 1) = some y) : ∃ x, dTb n ok g n s = some x ∧ dGe x (g e + y.1) (y.2.1 + 1) := by
  rw [dTb_eq (s := s) (by omega)]
  have h1 : dCe n g (dTb n ok g n) (s + (e - s)) = some (g e + y.1, y.2.1 + 1, e) := by
    rw [show s + (e - s) = e by omega]
    unfold dCe
    rw [if_neg (by omega), hy]
  exact dIn_max (y := (g e + y.1, y.2.1 + 1, e)) (by rw [show s + (e - s) = e by omega]; exact hok) h1 (n - s) (by omega)
/-- a way to divide what begins at s: the sum of the changes, the number of cuts -/
def ach (n : Nat) (ok : Nat → Nat → Bool) (c : Nat → Nat) : Nat → Nat → Nat → Nat → Prop
  | 0, _, _, _ => False
  | d + 1, s, C, k => ∃ e, s ≤ e ∧ e < n ∧ ok s e = true ∧ ((e + 1 = n ∧ C = 0 ∧ k = 0) ∨ (e + 1 < n ∧ ∃ C' k', ach n ok c d (e + 1) C' k' ∧ C = c e + C' ∧ k = k' + 1))
theorem tb_ach {n p : Nat} {ok : Nat → Nat → Bool} {c : Nat → Nat} : ∀ d s, s < n → n ≤ s + d → ∀ x, dTb n ok (fun e => (c e : Int) - p) n s = some x → ∃ C, ach n ok c d s C x.2.1 ∧ x.1 = (C : Int) - p * x.2.1 := by
  intro d
  induction d with
  | zero => intro s h1 h2; omega
  | succ d ih =>
    intro s h1 h2 x hx
    obtain ⟨g1, g2, g3, g4⟩ := tb_some h1 hx
    rcases g4 with ⟨g4, g5, g6⟩ | ⟨g4, y, g5, g6, g7⟩
    · refine ⟨0, ⟨x.2.2, g1, g2, g3, Or.inl ⟨g4, rfl, g6⟩⟩, ?_⟩
      rw [g5, g6]; simp
    · obtain ⟨C, f1, f2⟩ := ih (x.2.2 + 1) g4 (by omega) y g5
      refine ⟨c x.2.2 + C, ⟨x.2.2, g1, g2, g3, Or.inr ⟨g4, C, y.2.1, f1, rfl, g6⟩⟩, ?_⟩
      rw [g7, f2, g6, Int.natCast_add, Int.natCast_add, Int.mul_add]
      omega
theorem ach_tb {n p : Nat} {ok : Nat → Nat → Bool} {c : Nat → Nat} : ∀ d s, s < n → n ≤ s + d → ∀ C k, ach n ok c d s C k → ∃ x, dTb n ok (fun e => (c e : Int) - p) n s = some x ∧ dGe x ((C : Int) - p * k) k := by
  intro d
  induction d with
  | zero => intro s h1 h2; omega
  | succ d ih =>
    intro s h1 h2 C k hx
    obtain ⟨e, g1, g2, g3, g4⟩ := hx
    rcases g4 with ⟨g4, g5, g6⟩ | ⟨g4, C', k', g5, g6, g7⟩
    · subst g5; subst g6
      obtain ⟨x, f1, f2⟩ := tb_end (ok := ok) (g := fun e => (c e : Int) - p) g1 g4 g3
      refine ⟨x, f1, ?_⟩
      simpa using f2
    · obtain ⟨y, f1, f2⟩ := ih (e + 1) g4 (by omega) C' k' g5
      obtain ⟨x, f3, f4⟩ := tb_next g1 g4 g3 f1
      refine ⟨x, f3, ?_⟩
      subst g6; subst g7
      rw [Int.natCast_add, Int.natCast_add, Int.mul_add]
      unfold dGe at *
      omega
/-- the number of chapters of the best division at a price; 0 if there is none -/
def nch (n : Nat) (ok : Nat → Nat → Bool) (c : Nat → Nat) (p : Nat) : Nat :=
  match dTb n ok (fun e => (c e : Int) - p) n 0 with
  | none => 0
  | some x => x.2.1 + 1
theorem nch_mono {n : Nat} {ok : Nat → Nat → Bool} {c : Nat → Nat} (hn : 0 < n) {p q : Nat} (h : p ≤ q) : nch n ok c q ≤ nch n ok c p := by
  unfold nch
  cases hq : dTb n ok (fun e => (c e : Int) - q) n 0 with
  | none => exact Nat.zero_le _
  | some y =>
    obtain ⟨C, f1, f2⟩ := tb_ach (p := q) n 0 hn (by omega) y hq
    obtain ⟨x, f3, f4⟩ := ach_tb (p := p) n 0 hn (by omega) C y.2.1 f1
    rw [f3]
    obtain ⟨C2, f5, f6⟩ := tb_ach (p := p) n 0 hn (by omega) x f3
    obtain ⟨y2, f7, f8⟩ := ach_tb (p := q) n 0 hn (by omega) C2 x.2.1 f5
    rw [hq] at f7
    cases f7
    show y.2.1 + 1 ≤ x.2.1 + 1
    by_cases hle : y.2.1 ≤ x.2.1
    · omega
    · exfalso
      obtain ⟨r, hr⟩ : ∃ r, q = p + r := ⟨q - p, by omega⟩
      obtain ⟨m, hm⟩ : ∃ m, y.2.1 = x.2.1 + 1 + m := ⟨y.2.1 - x.2.1 - 1, by omega⟩
      unfold dGe at f4 f8
      rw [f2] at f8
      rw [f6] at f4
      rw [hm, hr] at f8
      rw [hm] at f4
      simp only [Int.natCast_add, Int.mul_add, Int.add_mul, Int.natCast_one, Int.mul_one] at f4 f8
      have h0 : 0 ≤ (r : Int) * m := Int.mul_nonneg (by omega) (by omega)
      generalize (p : Int) * x.2.1 = u1 at f4 f8
      generalize (r : Int) * x.2.1 = u2 at f4 f8
      generalize (p : Int) * m = u3 at f4 f8
      generalize (r : Int) * m = u4 at f4 f8 h0
      omega
/-- the greatest price up to 100 at which there are m chapters or more; none -/
def gpr (n : Nat) (ok : Nat → Nat → Bool) (c : Nat → Nat) (m : Nat) (r : Int32) : Prop :=
  (r = -nI 1 ∧ ∀ p, p ≤ 100 → nch n ok c p < m) ∨ ∃ q, q ≤ 100 ∧ r = nI q ∧ m ≤ nch n ok c q ∧ ∀ p, q < p → p ≤ 100 → nch n ok c p < m
theorem gpr_one {n : Nat} {ok : Nat → Nat → Bool} {c : Nat → Nat} {m : Nat} {r r' : Int32} (h : gpr n ok c m r) (h' : gpr n ok c m r') : r = r' := by
  rcases h with ⟨h1, h2⟩ | ⟨q, h1, h2, h3, h4⟩
  · rcases h' with ⟨g1, g2⟩ | ⟨q', g1, g2, g3, g4⟩
    · rw [h1, g1]
    · have := h2 q' g1; omega
  · rcases h' with ⟨g1, g2⟩ | ⟨q', g1, g2, g3, g4⟩
    · have := g2 q h1; omega
    · have e1 := h4 q'
      have e2 := g4 q
      have e3 : q = q' := by
        rcases Nat.lt_trichotomy q q' with h | h | h
        · have := e1 h g1; omega
        · exact h
        · have := e2 h h1; omega
      rw [h2, g2, e3]
/-! the chapters -/
def en (T : Nat → Option (Int × Nat × Nat)) (s : Nat) : Nat :=
  match T s with
  | none => s
  | some x => x.2.2
theorem en_s {T : Nat → Option (Int × Nat × Nat)} {s : Nat} {x : Int × Nat × Nat} (h : T s = some x) : en T s = x.2.2 := by
  unfold en
  rw [h]
def bg (T : Nat → Option (Int × Nat × Nat)) : Nat → Nat
  | 0 => 0
  | k + 1 => en T (bg T k) + 1
theorem bg_s (T : Nat → Option (Int × Nat × Nat)) (k : Nat) : bg T (k + 1) = en T (bg T k) + 1 := rfl
/-- a table whose chapters lie one behind another from 0 to n -/
def cht (n K : Nat) (T : Nat → Option (Int × Nat × Nat)) : Prop := (∀ k, k ≤ K → bg T k < n ∧ (T (bg T k)).isSome = true ∧ bg T k ≤ en T (bg T k)) ∧ bg T (K + 1) = n
theorem tb_cht {n : Nat} {ok : Nat → Nat → Bool} {g : Nat → Int} {x : Int × Nat × Nat} (hn : 0 < n) (h : dTb n ok g n 0 = some x) : cht n x.2.1 (dTb n ok g n) ∧ ∀ k, k ≤ x.2.1 → ok (bg (dTb n ok g n) k) (en (dTb n ok g n) (bg (dTb n ok g n) k)) = true := by
  have key : ∀ k, k ≤ x.2.1 → bg (dTb n ok g n) k < n ∧ ∃ y, dTb n ok g n (bg (dTb n ok g n) k) = some y ∧ y.2.1 + k = x.2.1 := by
    intro k
    induction k with
    | zero => intro _; exact ⟨hn, x, h, rfl⟩
    | succ k ih =>
      intro hk
      obtain ⟨h1, y, h2, h3⟩ := ih (by omega)
      obtain ⟨g1, g2, g3, g4⟩ := tb_some h1 h2
      rw [bg_s, en_s h2]
      rcases g4 with ⟨g4, g5, g6⟩ | ⟨g4, z, g5, g6, g7⟩
      · omega
      · exact ⟨g4, z, g5, by omega⟩
  refine ⟨⟨fun k hk => ?_, ?_⟩, fun k hk => ?_⟩
  · obtain ⟨h1, y, h2, h3⟩ := key k hk
    refine ⟨h1, by rw [h2]; rfl, ?_⟩
    rw [en_s h2]
    exact (tb_some h1 h2).1
  · obtain ⟨h1, y, h2, h3⟩ := key x.2.1 (Nat.le_refl _)
    rw [bg_s, en_s h2]
    rcases (tb_some h1 h2).2.2.2 with ⟨g4, g5, g6⟩ | ⟨g4, z, g5, g6, g7⟩
    · exact g4
    · omega
  · obtain ⟨h1, y, h2, h3⟩ := key k hk
    rw [en_s h2]
    exact (tb_some h1 h2).2.2.1
theorem cht.up {n K : Nat} {T : Nat → Option (Int × Nat × Nat)} (h : cht n K T) {k : Nat} (hk : k ≤ K) : bg T k < bg T (k + 1) := by
  have := h.1 k hk
  rw [bg_s]; omega
theorem cht.mono {n K : Nat} {T : Nat → Option (Int × Nat × Nat)} (h : cht n K T) : ∀ j i, i + j ≤ K + 1 → bg T i + j ≤ bg T (i + j) := by
  intro j
  induction j with
  | zero => intro i _; exact Nat.le_refl _
  | succ j ih =>
    intro i hi
    have h1 := ih i (by omega)
    have h2 := h.up (k := i + j) (by omega)
    rw [show i + (j + 1) = (i + j) + 1 from rfl]
    omega
theorem cht.le {n K : Nat} {T : Nat → Option (Int × Nat × Nat)} (h : cht n K T) {i j : Nat} (hij : i ≤ j) (hj : j ≤ K + 1) : bg T i ≤ bg T j := by
  have := h.mono (j - i) i (by omega)
  rw [show i + (j - i) = j by omega] at this
  omega
theorem cht.lt {n K : Nat} {T : Nat → Option (Int × Nat × Nat)} (h : cht n K T) {i j : Nat} (hij : i < j) (hj : j ≤ K + 1) : bg T i < bg T j := by
  have := h.mono (j - i) i (by omega)
  rw [show i + (j - i) = j by omega] at this
  omega
theorem cht.K {n K : Nat} {T : Nat → Option (Int × Nat × Nat)} (h : cht n K T) : K + 1 ≤ n := by
  have h1 := h.mono (K + 1) 0 (by omega)
  rw [Nat.zero_add, h.2] at h1
  omega
theorem cht.one {n K : Nat} {T : Nat → Option (Int × Nat × Nat)} (h : cht n K T) {t k k' : Nat} (hk : k ≤ K) (hk' : k' ≤ K) (h1 : bg T k ≤ t) (h2 : t < bg T (k + 1)) (h3 : bg T k' ≤ t) (h4 : t < bg T (k' + 1)) : k = k' := by
  rcases Nat.lt_trichotomy k k' with h5 | h5 | h5
  · have := h.le (i := k + 1) (j := k') (by omega) (by omega); omega
  · exact h5
  · have := h.le (i := k' + 1) (j := k) (by omega) (by omega); omega
theorem cht.ex {n K : Nat} {T : Nat → Option (Int × Nat × Nat)} (h : cht n K T) {t : Nat} (ht : t < n) : ∃ k, k ≤ K ∧ bg T k ≤ t ∧ t < bg T (k + 1) := by
  have key : ∀ j, j ≤ K + 1 → t < bg T j → ∃ k, k ≤ K ∧ bg T k ≤ t ∧ t < bg T (k + 1) := by
    intro j
    induction j with
    | zero => intro _ h1; exact absurd h1 (Nat.not_lt_zero t)
    | succ j ih =>
      intro hj h1
      by_cases h2 : t < bg T j
      · exact ih (by omega) h2
      · exact ⟨j, by omega, by omega, h1⟩
  exact key (K + 1) (Nat.le_refl _) (by rw [h.2]; exact ht)
