/-! ===== numbers, loops: pure rows ===== -/
theorem fa_lit (n : Nat) : (OfNat.ofNat n : Int32) = nI n := Eq.trans rfl rfl
theorem fa_litL (n : Nat) : (OfNat.ofNat n : Int64) = lN n := Eq.trans rfl rfl
theorem gi_n {α : Type} {j n : Nat} {x : Option α} (h : j < n) (hn : n < 2 ^ 31) : gi (nI j) n x = x := by
  unfold gi
  rw [if_neg (vp_in_nI h hn)]
theorem nI_sle {n m j : Nat} (h : n < 2 ^ 30) (h2 : m < 2 ^ 30) (h3 : j < 2 ^ 30) : (nI n - nI m ≤ nI j) = (n - m ≤ j) := by
  rw [Int32.le_iff_toInt_le, pk_sub_toInt h h2, nI_toInt (by omega)]
  exact propext ⟨fun h => by omega, fun h => by omega⟩
theorem gb_0 {α : Type} {x : Option α} : gb (nI 0) x = x := if_pos (Or.inl rfl)
theorem gb_1 {α : Type} {x : Option α} : gb (nI 1) x = x := if_pos (Or.inr rfl)
theorem lc_lt (x y : Int64) : (lg_cmp x y < nI 0) = (x < y) := propext (lg_cmp_lt x y)
theorem lc_gt (x y : Int64) : (nI 0 < lg_cmp x y) = (y < x) := propext (lg_cmp_gt x y)
theorem lc_ge (x y : Int64) : (nI 0 ≤ lg_cmp x y) = (y ≤ x) := propext (lg_cmp_ge x y)
theorem lc_le (x y : Int64) : (lg_cmp x y ≤ nI 0) = (x ≤ y) := propext (lg_cmp_le x y)
theorem lc_eq (x y : Int64) : (lg_cmp x y = nI 0) = (x = y) := propext (lg_cmp_eq x y)
theorem mI_toInt : (-nI 1 : Int32).toInt = -1 := by decide
theorem mI_eqR {a : Nat} (h : a < 2 ^ 31) : (nI a = -nI 1) = False := by
  refine eq_false (fun e => ?_)
  have h1 := congrArg Int32.toInt e
  rw [nI_toInt h, mI_toInt] at h1
  omega
theorem mI_eqL {a : Nat} (h : a < 2 ^ 31) : (-nI 1 = nI a) = False := by
  refine eq_false (fun e => ?_)
  have h1 := congrArg Int32.toInt e
  rw [nI_toInt h, mI_toInt] at h1
  omega
theorem mI_ltL {a : Nat} (h : a < 2 ^ 31) : (-nI 1 < nI a) = True := by
  refine eq_true (Int32.lt_iff_toInt_lt.mpr ?_)
  rw [nI_toInt h, mI_toInt]; omega
theorem mI_ltR {a : Nat} (h : a < 2 ^ 31) : (nI a < -nI 1) = False := by
  refine eq_false (fun e => ?_)
  have h1 := Int32.lt_iff_toInt_lt.mp e
  rw [nI_toInt h, mI_toInt] at h1
  omega
theorem mI_leL {a : Nat} (h : a < 2 ^ 31) : (-nI 1 ≤ nI a) = True := by
  refine eq_true (Int32.le_iff_toInt_le.mpr ?_)
  rw [nI_toInt h, mI_toInt]; omega
theorem mI_leR {a : Nat} (h : a < 2 ^ 31) : (nI a ≤ -nI 1) = False := by
  refine eq_false (fun e => ?_)
  have h1 := Int32.le_iff_toInt_le.mp e
  rw [nI_toInt h, mI_toInt] at h1
  omega
theorem mI_add {a : Nat} (h : 0 < a) : nI a + -nI 1 = nI (a - 1) := sb_m1 h
theorem ob1_some {α β : Type} (a : α) (f : α → Option β) : ob1 (some a) f = f a := rfl
theorem ob2_some {a b β : Type} (x : a) (y : b) (f : a → b → Option β) : ob2 (some (x, y)) f = f x y := rfl
theorem ob3_some {a b c β : Type} (x : a) (y : b) (z : c) (f : a → b → c → Option β) : ob3 (some (x, y, z)) f = f x y z := rfl
theorem ob4_some {a b c d β : Type} (x : a) (y : b) (z : c) (u : d) (f : a → b → c → d → Option β) : ob4 (some (x, y, z, u)) f = f x y z u := rfl
theorem ob5_some {a b c d e β : Type} (x : a) (y : b) (z : c) (u : d) (v : e) (f : a → b → c → d → e → Option β) : ob5 (some (x, y, z, u, v)) f = f x y z u v := rfl
theorem ob6_some {a b c d e g β : Type} (x : a) (y : b) (z : c) (u : d) (v : e) (w : g) (f : a → b → c → d → e → g → Option β) : ob6 (some (x, y, z, u, v, w)) f = f x y z u v w := rfl
theorem ob7_some {a b c d e g h β : Type} (x : a) (y : b) (z : c) (u : d) (v : e) (w : g) (t : h) (f : a → b → c → d → e → g → h → Option β) : ob7 (some (x, y, z, u, v, w, t)) f = f x y z u v w t := rfl
theorem ob8_some {a b c d e g h i β : Type} (x : a) (y : b) (z : c) (u : d) (v : e) (w : g) (t : h) (s : i) (f : a → b → c → d → e → g → h → i → Option β) : ob8 (some (x, y, z, u, v, w, t, s)) f = f x y z u v w t s := rfl
theorem xoq_l {α β : Type} (c : Nat) (f : Nat → Option β) (g : α → Option β) : xo (.inl c) f g = f c := rfl
theorem xoq_r {α β : Type} (r : α) (f : Nat → Option β) (g : α → Option β) : xo (.inr r) f g = g r := rfl
/-- a loop by a measure -/
theorem wh_inv {σ ρ : Type} {step : (σ → Option ρ) → σ → Option ρ} (I : Nat → σ → Prop) (P : Option ρ → Prop) (hs : ∀ m q, I m q → ∀ k, (∀ m' q', m' < m → I m' q' → P (k q')) → P (step k q)) : ∀ (N m : Nat) (q : σ), I m q → m < N → P (wh step N q) := by
  intro N
  induction N with
  | zero => intro m q _ h; exact absurd h (Nat.not_lt_zero _)
  | succ N ih =>
    intro m q hI hm
    exact hs m q hI (wh step N) (fun m' q' h1 h2 => ih m' q' h2 (by omega))
/-- a loop that counts up to e, or ends before -/
theorem wh_up {σ ρ : Type} {step : (σ → Option ρ) → σ → Option ρ} (e : Nat) (he : e < 1000000) (I : Nat → σ → Prop) (P : Option ρ → Prop) (hs : ∀ j q, j ≤ e → I j q → ∀ k, (j < e → ∀ q', I (j + 1) q' → P (k q')) → P (step k q)) {j : Nat} {q : σ} (hj : j ≤ e) (hI : I j q) : P (wh step wF q) := by
  refine wh_inv (fun m q => ∃ j, j + m = e ∧ I j q) P (fun m q h k hk => ?_) wF (e - j) q ⟨j, by omega, hI⟩ (by unfold wF; omega)
  obtain ⟨i, h1, h2⟩ := h
  exact hs i q (by omega) h2 k (fun hlt q' h3 => hk (m - 1) q' (by omega) ⟨i + 1, by omega, h3⟩)
/-- a loop that counts from a to e and then ends -/
theorem wh_for {σ ρ : Type} {step : (σ → Option ρ) → σ → Option ρ} (f : Nat → σ) (a e : Nat) {r : ρ} (hae : a ≤ e) (he : e < 1000000) (hs : ∀ j, a ≤ j → j < e → ∀ k, step k (f j) = k (f (j + 1))) (hx : ∀ k, step k (f e) = some r) : wh step wF (f a) = some r := by
  have key : ∀ (N i : Nat), a ≤ i → i ≤ e → e - i < N → wh step N (f i) = some r := by
    intro N
    induction N with
    | zero => intro i _ _ h; omega
    | succ N ih =>
      intro i ha hi hN
      by_cases hlt : i < e
      · show step (wh step N) (f i) = some r
        rw [hs i ha hlt]
        exact ih (i + 1) (by omega) (by omega) (by omega)
      · have h9 : i = e := by omega
        subst h9
        exact hx _
  exact key wF a (Nat.le_refl a) hae (by unfold wF; omega)
/-- a loop that counts from e down to 0 -/
theorem wh_dn {σ ρ : Type} {step : (σ → Option ρ) → σ → Option ρ} (f : Nat → σ) (e : Nat) {r : ρ} (he : e < 1000000) (hs : ∀ j, j < e → ∀ k, step k (f (j + 1)) = k (f j)) (hx : ∀ k, step k (f 0) = some r) : wh step wF (f e) = some r := by
  have key : ∀ (N i : Nat), i ≤ e → i < N → wh step N (f i) = some r := by
    intro N
    induction N with
    | zero => intro i _ h; omega
    | succ N ih =>
      intro i hi hN
      cases i with
      | zero => exact hx _
      | succ i =>
        show step (wh step N) (f (i + 1)) = some r
        rw [hs i (by omega)]
        exact ih i (by omega) (by omega)
  exact key wF e (Nat.le_refl e) (by unfold wF; omega)
/-! signed numbers -/
def iI (x : Int) : Int32 := Int32.ofInt x
theorem iI_n (n : Nat) : nI n = iI (n : Int) := Int32.ofInt_eq_ofNat.symm
theorem iI_neg (x : Int) : -iI x = iI (-x) := (Int32.ofInt_neg x).symm
theorem iI_add (x y : Int) : iI x + iI y = iI (x + y) := (Int32.ofInt_add x y).symm
theorem iI_sub (x y : Int) : iI x - iI y = iI (x - y) := (Int32.ofInt_sub x y).symm
theorem iI_toInt {x : Int} (h : -2 ^ 31 ≤ x) (h2 : x < 2 ^ 31) : (iI x).toInt = x := Int32.toInt_ofInt_of_le h h2
theorem iI_lt {x y : Int} (h : -2 ^ 31 ≤ x) (h2 : x < 2 ^ 31) (h3 : -2 ^ 31 ≤ y) (h4 : y < 2 ^ 31) : (iI x < iI y) = (x < y) := by
  rw [Int32.lt_iff_toInt_lt, iI_toInt h h2, iI_toInt h3 h4]
theorem iI_le {x y : Int} (h : -2 ^ 31 ≤ x) (h2 : x < 2 ^ 31) (h3 : -2 ^ 31 ≤ y) (h4 : y < 2 ^ 31) : (iI x ≤ iI y) = (x ≤ y) := by
  rw [Int32.le_iff_toInt_le, iI_toInt h h2, iI_toInt h3 h4]
theorem iI_eq {x y : Int} (h : -2 ^ 31 ≤ x) (h2 : x < 2 ^ 31) (h3 : -2 ^ 31 ≤ y) (h4 : y < 2 ^ 31) : (iI x = iI y) = (x = y) := by
  refine propext ⟨fun e => ?_, fun e => by rw [e]⟩
  have h1 := congrArg Int32.toInt e
  rwa [iI_toInt h h2, iI_toInt h3 h4] at h1
theorem nI_iSub (a b : Nat) : nI a - nI b = iI ((a : Int) - b) := by rw [iI_n, iI_n, iI_sub]
/-- an answer of 0 or 1 -/
def bI (p : Prop) [Decidable p] : Int32 := if p then nI 1 else nI 0
theorem bI_1 {p : Prop} [Decidable p] (h : p) : bI p = nI 1 := if_pos h
theorem bI_0 {p : Prop} [Decidable p] (h : ¬ p) : bI p = nI 0 := if_neg h
theorem q_isIn (x y z : Int64) : F_X11_isIn x y z = some (bI (y ≤ x ∧ x ≤ z)) := by
  unfold F_X11_isIn bI
  simp (disch := omega) only [fa_lit, fa_litL, nI_add, pk_mul, pk_sub, nI_clamp, gi_n, gb_0, gb_1, nI_ltI, nI_leI, nI_eq, lc_lt, lc_gt, lc_ge, lc_le, lc_eq, lN_i, nI_l, lN_add, lN_mul, lN_lt, lN_le, lN_eq, mI_eqR, mI_eqL, mI_ltL, mI_ltR, mI_leL, mI_leR, mI_add, ob1_some, ob2_some, ob3_some, ob4_some, ob5_some, ob6_some, ob7_some, ob8_some, if_true, if_false, if_pos, if_neg, Sum.elim_inl, Sum.elim_inr, un1, un2, un3, un4, un5, Nat.zero_add, Nat.add_zero, Nat.mul_one, Nat.mul_zero, Nat.sub_zero, pk_us, pk_uLs, xoq_l, xoq_r, nI_sle]
  by_cases h1 : x < y
  · rw [if_pos h1, if_neg (fun h => absurd h.1 (Int64.not_le.mpr h1))]
  · rw [if_neg h1]
    by_cases h2 : z < x
    · rw [if_pos h2, if_neg (fun h => absurd h.2 (Int64.not_le.mpr h2))]
    · rw [if_neg h2, if_pos ⟨Int64.not_lt.mp h1, Int64.not_lt.mp h2⟩]
theorem i32_toL (x : Int32) : x.toInt64.toInt = x.toInt := Int32.toInt_toInt64 x
theorem q_isInN (x : Int32) {lo hi : Nat} (h1 : lo < 2 ^ 31) (h2 : hi < 2 ^ 31) : F_X11_isIn x.toInt64 (lN lo) (lN hi) = some (bI ((lo : Int) ≤ x.toInt ∧ x.toInt ≤ hi)) := by
  rw [q_isIn]
  have e1 : ((lN lo) ≤ x.toInt64 ∧ x.toInt64 ≤ lN hi) = ((lo : Int) ≤ x.toInt ∧ x.toInt ≤ hi) := by
    rw [Int64.le_iff_toInt_le, Int64.le_iff_toInt_le, lN_toInt h1, lN_toInt h2, i32_toL]
  unfold bI
  simp only [e1]
theorem nIs_toInt {n m : Nat} (h : n < 2 ^ 30) (h2 : m < 2 ^ 30) : ((nI n - nI m).toInt64).toInt = (n : Int) - m := by
  rw [i32_toL, pk_sub_toInt h h2]
theorem q_isInS (x : Int32) {n m : Nat} (h : n < 2 ^ 30) (h2 : m < 2 ^ 30) : F_X11_isIn x.toInt64 (lN 0) (nI n - nI m).toInt64 = some (bI (0 ≤ x.toInt ∧ x.toInt ≤ (n : Int) - m)) := by
  rw [q_isIn]
  have e1 : ((lN 0) ≤ x.toInt64 ∧ x.toInt64 ≤ (nI n - nI m).toInt64) = (0 ≤ x.toInt ∧ x.toInt ≤ (n : Int) - m) := by
    rw [Int64.le_iff_toInt_le, Int64.le_iff_toInt_le, nIs_toInt h h2, lN_toInt (by omega), i32_toL]
    rfl
  unfold bI
  simp only [e1]
theorem i32_nI {x : Int32} (h : 0 ≤ x.toInt) : ∃ j : Nat, j < 2 ^ 31 ∧ x = nI j ∧ x.toInt = j := by
  obtain ⟨j, h1, h2⟩ := nI_of (x := x) (fun h9 => by
    have h8 := Int32.lt_iff_toInt_lt.mp h9
    have h7 : (0 : Int32).toInt = 0 := rfl
    omega)
  exact ⟨j, h1, h2, by rw [h2, nI_toInt h1]⟩
theorem i32_lt0 (x : Int32) : (x < nI 0) = (x.toInt < 0) := by
  rw [Int32.lt_iff_toInt_lt]; rfl
theorem i32_ltN (x : Int32) {n : Nat} (h : n < 2 ^ 31) : (x < nI n) = (x.toInt < n) := by
  rw [Int32.lt_iff_toInt_lt, nI_toInt h]
theorem i32_Nlt (x : Int32) {n : Nat} (h : n < 2 ^ 31) : (nI n < x) = ((n : Int) < x.toInt) := by
  rw [Int32.lt_iff_toInt_lt, nI_toInt h]
theorem i32_leN (x : Int32) {n : Nat} (h : n < 2 ^ 31) : (x ≤ nI n) = (x.toInt ≤ n) := by
  rw [Int32.le_iff_toInt_le, nI_toInt h]
theorem i32_Nle (x : Int32) {n : Nat} (h : n < 2 ^ 31) : (nI n ≤ x) = ((n : Int) ≤ x.toInt) := by
  rw [Int32.le_iff_toInt_le, nI_toInt h]
theorem ob1_t {α β : Type} {x : Option α} {a : α} {f : α → Option β} {o : Option β} (h : x = some a) (h2 : f a = o) : ob1 x f = o := by subst h; exact h2
theorem whf {σ ρ : Type} {step : (σ → Option ρ) → σ → Option ρ} (f : Nat → σ) (a e : Nat) {q : σ} {r : ρ} (hq : q = f a) (hae : a ≤ e) (he : e < 1000000) (hs : ∀ j, a ≤ j → j < e → ∀ k, step k (f j) = k (f (j + 1))) (hx : ∀ k, step k (f e) = some r) : wh step wF q = some r := by
  subst hq
  exact wh_for f a e hae he hs hx
theorem whd {σ ρ : Type} {step : (σ → Option ρ) → σ → Option ρ} (f : Nat → σ) (e : Nat) {q : σ} {r : ρ} (hq : q = f e) (he : e < 1000000) (hs : ∀ j, j < e → ∀ k, step k (f (j + 1)) = k (f j)) (hx : ∀ k, step k (f 0) = some r) : wh step wF q = some r := by
  subst hq
  exact wh_dn f e he hs hx
/-- the first place below n at which P holds; n if there is none -/
def fi (P : Nat → Bool) : Nat → Nat
  | 0 => 0
  | n + 1 => if fi P n < n then fi P n else if P n = true then n else n + 1
theorem n0 : (0 : Int32) = nI 0 := rfl
theorem fi_le (P : Nat → Bool) : ∀ n, fi P n ≤ n := by
  intro n
  induction n with
  | zero => exact Nat.le_refl 0
  | succ n ih =>
    unfold fi
    by_cases h : fi P n < n
    · rw [if_pos h]; omega
    · rw [if_neg h]
      by_cases h2 : P n = true
      · rw [if_pos h2]; omega
      · rw [if_neg h2]; omega
theorem fi_lt (P : Nat → Bool) : ∀ n j, j < fi P n → P j = false := by
  intro n
  induction n with
  | zero => intro j h; exact absurd h (Nat.not_lt_zero j)
  | succ n ih =>
    intro j h
    unfold fi at h
    by_cases h1 : fi P n < n
    · rw [if_pos h1] at h; exact ih j h
    · have h3 := fi_le P n
      have h4 : fi P n = n := by omega
      rw [if_neg h1] at h
      by_cases h2 : P n = true
      · rw [if_pos h2] at h; exact ih j (by omega)
      · rw [if_neg h2] at h
        by_cases h5 : j = n
        · subst h5; simpa using h2
        · exact ih j (by omega)
theorem fi_at (P : Nat → Bool) : ∀ n, fi P n < n → P (fi P n) = true := by
  intro n
  induction n with
  | zero => intro h; exact absurd h (Nat.not_lt_zero _)
  | succ n ih =>
    intro h
    unfold fi at h ⊢
    by_cases h1 : fi P n < n
    · rw [if_pos h1]; exact ih h1
    · rw [if_neg h1] at h ⊢
      by_cases h2 : P n = true
      · rw [if_pos h2]; exact h2
      · rw [if_neg h2] at h; omega
/-- a place, or none -/
def rI (k n : Nat) : Int32 := if k < n then nI k else -nI 1
theorem rI_l {k n : Nat} (h : k < n) : rI k n = nI k := if_pos h
theorem rI_n {k n : Nat} (h : ¬ k < n) : rI k n = -nI 1 := if_neg h
