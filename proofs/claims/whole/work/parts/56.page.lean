/-! ===== a page: numbers and names ===== -/
def PG (L : List Nat) (len : Int32) (by_ : Nat → Int32) : Prop := len = nI L.length ∧ ∀ i, i < L.length → by_ i = nI (L.getD i 0)
theorem PG.nil {by_ : Nat → Int32} : PG [] (nI 0) by_ := ⟨rfl, fun i h => absurd h (Nat.not_lt_zero i)⟩
theorem PG.app {L : List Nat} {len : Int32} {by_ : Nat → Int32} (h : PG L len by_) {c : Nat} : PG (L ++ [c]) (nI (L.length + 1)) (upd by_ L.length (nI c)) := by
  have hl : (L ++ [c]).length = L.length + 1 := by rw [List.length_append]; rfl
  refine ⟨by rw [hl], fun i hi => ?_⟩
  rw [hl] at hi
  by_cases h1 : i = L.length
  · subst h1
    rw [upd_s]
    congr 1
    rw [List.getD_eq_getElem?_getD, List.getElem?_concat_length]
    rfl
  · rw [upd_n h1, h.2 i (by omega)]
    congr 1
    rw [List.getD_eq_getElem?_getD, List.getD_eq_getElem?_getD, List.getElem?_append_left (by omega)]
theorem p_put {L : List Nat} {len : Int32} {by_ : Nat → Int32} (h : PG L len by_) (hl : L.length < 1056) {c : Nat} : ∃ by', F_X3_put (nI c) len by_ = some (nI (L.length + 1), by') ∧ PG (L ++ [c]) (nI (L.length + 1)) by' := by
  have e := h.1
  unfold F_X3_put
  rw [e, if_neg (show ¬ (1056 : Int32) ≤ nI L.length from fun h => by have := (nI_leI (a := 1056) (by omega) (by omega)).mp h; omega), gi_n hl (by omega), nI_clamp (by omega)]
  exact ⟨_, by rw [show nI L.length + (1 : Int32) = nI (L.length + 1) from nI_add L.length 1], h.app⟩
theorem q_says {L : List Nat} {len : Int32} {by_ : Nat → Int32} (h : PG L len by_) (hl : L.length < 1200) {c : Nat} : ∃ by', F_X11_says (nI c) len by_ = some (nI (L.length + 1), by') ∧ PG (L ++ [c]) (nI (L.length + 1)) by' := by
  have e := h.1
  unfold F_X11_says
  rw [e, gi_n hl (by omega), nI_clamp (by omega)]
  exact ⟨_, by rw [show nI L.length + (1 : Int32) = nI (L.length + 1) from nI_add L.length 1], h.app⟩
/-- the digits of a number -/
def dgl : Nat → Nat → List Nat
  | 0, _ => []
  | f + 1, x => if x < 10 then [48 + x % 10] else dgl f (x / 10) ++ [48 + x % 10]
theorem dgl_s (f x : Nat) : dgl (f + 1) x = if x < 10 then [48 + x % 10] else dgl f (x / 10) ++ [48 + x % 10] := rfl
theorem dgl_len : ∀ f x, (dgl f x).length ≤ f := by
  intro f
  induction f with
  | zero => intro x; exact Nat.le_refl _
  | succ f ih =>
    intro x
    rw [dgl_s]
    by_cases c : x < 10
    · rw [if_pos c]; show 1 ≤ f + 1; omega
    · rw [if_neg c, List.length_append]
      have := ih (x / 10)
      show _ + 1 ≤ f + 1
      omega
theorem md10 {x : Nat} (h : x < 2 ^ 31) : nI x - nI x / (10 : Int32) * (10 : Int32) = nI (x % 10) := by
  rw [show (10 : Int32) = nI 10 from rfl]
  exact pk_rem h (by omega) (by omega)
theorem dv10 {x : Nat} (h : x < 2 ^ 31) : nI x / (10 : Int32) = nI (x / 10) := by
  rw [show (10 : Int32) = nI 10 from rfl]
  exact pk_div h (by omega) (by omega)
theorem q_sn14 {x : Nat} (hx : x < 2 ^ 31) {L : List Nat} {len : Int32} {by_ : Nat → Int32} (h : PG L len by_) (hl : L.length < 1200) : ∃ by', F_X11_saysNumber_b14 (nI x) len by_ = some (nI (L.length + 1), by') ∧ PG (L ++ [48 + x % 10]) (nI (L.length + 1)) by' := by
  unfold F_X11_saysNumber_b14 gzi
  obtain ⟨by', f1, f2⟩ := q_says h hl (c := 48 + x % 10)
  rw [if_neg (by decide), md10 hx, show (48 : Int32) + nI (x % 10) = nI (48 + x % 10) from nI_add 48 _, f1, ob2_some]
  exact ⟨_, rfl, f2⟩
theorem q_saysNumber : ∀ f x, x < 2 ^ 31 → x < 10 ^ f → 0 < f → ∀ {L : List Nat} {len : Int32} {by_ : Nat → Int32}, PG L len by_ → L.length + f < 1200 → ∃ by', F_X11_saysNumber f (nI x) len by_ = some (nI (L ++ dgl f x).length, by') ∧ PG (L ++ dgl f x) (nI (L ++ dgl f x).length) by' := by
  intro f
  induction f with
  | zero =>
    intro x _ _ h
    exact absurd h (by omega)
  | succ f ih =>
    intro x hx h _ L len by_ hP hl
    unfold F_X11_saysNumber
    rw [dgl_s]
    by_cases c : x < 10
    · rw [if_pos (show nI x ≤ (9 : Int32) from nI_le (b := 9) (by omega) (by omega)), if_pos c]
      obtain ⟨by', f1, f2⟩ := q_sn14 hx hP (by omega)
      have e : (L ++ [48 + x % 10]).length = L.length + 1 := by rw [List.length_append]; rfl
      rw [e]
      exact ⟨_, f1, f2⟩
    · rw [if_neg (show ¬ nI x ≤ (9 : Int32) from fun h => by have := (nI_leI (b := 9) (by omega) (by omega)).mp h; omega), if_neg c]
      unfold gzi
      rw [if_neg (by decide), dv10 hx]
      obtain ⟨by1, f1, f2⟩ := ih (x / 10) (by omega) (by rw [Nat.pow_succ] at h; omega) (by
        rcases Nat.eq_zero_or_pos f with h0 | h0
        · subst h0; have e : 10 ^ (0 + 1) = 10 := rfl; rw [e] at h; omega
        · exact h0) hP (by omega)
      rw [f1, ob2_some]
      have hd := dgl_len f (x / 10)
      have hl2 : (L ++ dgl f (x / 10)).length < 1200 := by rw [List.length_append]; omega
      obtain ⟨by', f3, f4⟩ := q_sn14 hx f2 hl2
      have e : (L ++ (dgl f (x / 10) ++ [48 + x % 10])).length = (L ++ dgl f (x / 10)).length + 1 := by rw [← List.append_assoc, List.length_append (as := L ++ dgl f (x / 10))]; rfl
      rw [e, ← List.append_assoc]
      exact ⟨_, f3, f4⟩

/-- the class's number -/
theorem ch16 : ∀ b, b < 123 → ((nI b).toUInt32 % 65536).toInt32 = nI b := by decide +kernel
theorem pn31 {k : Int32 × Int32 × (Nat → Int32) → Option (Int32 × (Nat → Int32))} {x1 len : Int32} {by_ : Nat → Int32} {d : Nat} (hd : d < 2 ^ 31) : F_X3_putNumber_b31 k x1 (nI d) len by_ = k (nI (d / 10), len, by_) := by
  unfold F_X3_putNumber_b31 gzi
  rw [if_neg (by decide), dv10 hd]
theorem pnS {k : Int32 × Int32 × (Nat → Int32) → Option (Int32 × (Nat → Int32))} {x d : Nat} {L : List Nat} {len : Int32} {by_ : Nat → Int32} (hx : x < 2 ^ 31) (hd : 0 < d) (hd2 : d < 2 ^ 31) (h : PG L len by_) (hl : L.length < 1056) (hp : d ≤ x ∨ d = 1) : ∃ by', S_X3_putNumber_3 (nI x) k (nI d) len by_ = k (nI (d / 10), nI (L.length + 1), by') ∧ PG (L ++ [48 + x / d % 10]) (nI (L.length + 1)) by' := by
  have h17 : ∃ by', F_X3_putNumber_b17 k (nI x) (nI d) len by_ = k (nI (d / 10), nI (L.length + 1), by') ∧ PG (L ++ [48 + x / d % 10]) (nI (L.length + 1)) by' := by
    obtain ⟨by', f1, f2⟩ := p_put h hl (c := 48 + x / d % 10)
    have hq : x / d < 2 ^ 31 := Nat.lt_of_le_of_lt (Nat.div_le_self _ _) hx
    unfold F_X3_putNumber_b17 gzi
    rw [if_neg (show ¬ nI d = (0 : Int32) from fun h => by have := (nI_eq (b := 0) hd2 (by omega)).mp h; omega), if_neg (by decide), pk_div hx hd hd2, md10 hq, show (48 : Int32) + nI (x / d % 10) = nI (48 + x / d % 10) from nI_add 48 _, ch16 _ (by omega), f1, ob2_some, pn31 hd2]
    exact ⟨_, rfl, f2⟩
  unfold S_X3_putNumber_3
  rw [if_neg (show ¬ nI d ≤ (0 : Int32) from fun h => by have := (nI_leI (b := 0) hd2 (by omega)).mp h; omega)]
  by_cases c : d ≤ x
  · rw [if_pos (nI_le c hx)]
    exact h17
  · have c1 : d = 1 := by omega
    rw [if_neg (show ¬ nI d ≤ nI x from fun h => c ((nI_leI hd2 hx).mp h))]
    rw [if_pos (show nI d = (1 : Int32) by rw [c1]; rfl)]
    exact h17
theorem pnK {k : Int32 × Int32 × (Nat → Int32) → Option (Int32 × (Nat → Int32))} {x d : Nat} {len : Int32} {by_ : Nat → Int32} (hx : x < 2 ^ 31) (hd : 1 < d) (hd2 : d < 2 ^ 31) (hp : x < d) : S_X3_putNumber_3 (nI x) k (nI d) len by_ = k (nI (d / 10), len, by_) := by
  unfold S_X3_putNumber_3
  rw [if_neg (show ¬ nI d ≤ (0 : Int32) from fun h => by have := (nI_leI (b := 0) hd2 (by omega)).mp h; omega), if_neg (show ¬ nI d ≤ nI x from fun h => by have := (nI_leI hd2 hx).mp h; omega), if_neg (show ¬ nI d = (1 : Int32) from fun h => by have := (nI_eq (b := 1) hd2 (by omega)).mp h; omega), pn31 hd2]
theorem pn0 {k : Int32 × Int32 × (Nat → Int32) → Option (Int32 × (Nat → Int32))} {x1 len : Int32} {by_ : Nat → Int32} : S_X3_putNumber_3 x1 k (nI 0) len by_ = some (len, by_) := by
  unfold S_X3_putNumber_3
  rw [if_pos (show nI 0 ≤ (0 : Int32) by decide)]
/-- the digits from 10^j on -/
def dgs (x : Nat) : Nat → List Nat
  | 0 => [48 + x / 1 % 10]
  | j + 1 => (48 + x / 10 ^ (j + 1) % 10) :: dgs x j
theorem dgs_app {x : Nat} : ∀ j, dgs x (j + 1) = dgs (x / 10) j ++ [48 + x % 10] := by
  intro j
  induction j with
  | zero =>
    show [48 + x / 10 ^ 1 % 10, 48 + x / 1 % 10] = [48 + x / 10 / 1 % 10, 48 + x % 10]
    rw [Nat.div_one, Nat.div_one]
  | succ j ih =>
    show (48 + x / 10 ^ (j + 1 + 1) % 10) :: dgs x (j + 1) = _
    rw [ih]
    show _ = (48 + x / 10 / 10 ^ (j + 1) % 10) :: (dgs (x / 10) j ++ [48 + x % 10])
    rw [Nat.div_div_eq_div_mul, Nat.pow_succ 10 (j + 1), Nat.mul_comm 10]
theorem dgs_len {x : Nat} : ∀ j, (dgs x j).length = j + 1 := by
  intro j
  induction j with
  | zero => rfl
  | succ j ih => show (dgs x j).length + 1 = _; rw [ih]
theorem dgl_dgs : ∀ j f x, j < f → (10 ^ j ≤ x ∨ j = 0) → x < 10 ^ (j + 1) → dgl f x = dgs x j := by
  intro j
  induction j with
  | zero =>
    intro f x hf _ hx
    obtain ⟨f, rfl⟩ : ∃ f', f = f' + 1 := ⟨f - 1, by omega⟩
    have e : 10 ^ (0 + 1) = 10 := rfl
    rw [e] at hx
    rw [dgl_s, if_pos hx]
    show _ = [48 + x / 1 % 10]
    rw [Nat.div_one]
  | succ j ih =>
    intro f x hf h1 hx
    obtain ⟨f, rfl⟩ : ∃ f', f = f' + 1 := ⟨f - 1, by omega⟩
    have h1 : 10 ^ (j + 1) ≤ x := by omega
    have hp : 0 < 10 ^ j := Nat.pow_pos (by omega)
    rw [Nat.pow_succ] at h1
    rw [Nat.pow_succ] at hx
    rw [dgl_s, if_neg (by omega), dgs_app, ih f (x / 10) (by omega) (Or.inl (by omega)) (by omega)]
theorem pw10 {j : Nat} : 10 ^ (j + 1) / 10 = 10 ^ j := by rw [Nat.pow_succ]; exact Nat.mul_div_cancel _ (by omega)
/-- from 10^j on, when the number reaches it -/
theorem p_pnA {x : Nat} (hx : x < 2 ^ 31) : ∀ j, j ≤ 9 → (10 ^ j ≤ x ∨ j = 0) → ∀ N {L : List Nat} {len : Int32} {by_ : Nat → Int32}, j + 1 < N → PG L len by_ → L.length + (j + 1) ≤ 1056 → ∃ by', wh (fun k (q : Int32 × Int32 × (Nat → Int32)) => S_X3_putNumber_3 (nI x) k q.1 q.2.1 q.2.2) N (nI (10 ^ j), len, by_) = some (nI (L ++ dgs x j).length, by') ∧ PG (L ++ dgs x j) (nI (L ++ dgs x j).length) by' := by
  intro j
  induction j with
  | zero =>
    intro _ _ N L len by_ hN hP hl
    obtain ⟨N, rfl⟩ : ∃ N', N = N' + 1 + 1 := ⟨N - 2, by omega⟩
    obtain ⟨by', f1, f2⟩ := pnS (k := wh (fun k (q : Int32 × Int32 × (Nat → Int32)) => S_X3_putNumber_3 (nI x) k q.1 q.2.1 q.2.2) (N + 1)) (x := x) (d := 1) hx (by omega) (by omega) hP (by omega) (Or.inr rfl)
    have e : (L ++ dgs x 0).length = L.length + 1 := by rw [List.length_append]; rfl
    rw [e]
    refine ⟨by', ?_, f2⟩
    show S_X3_putNumber_3 (nI x) (wh _ (N + 1)) (nI 1) len by_ = _
    rw [f1]
    exact pn0
  | succ j ih =>
    intro hj h1 N L len by_ hN hP hl
    obtain ⟨N, rfl⟩ : ∃ N', N = N' + 1 := ⟨N - 1, by omega⟩
    have h1 : 10 ^ (j + 1) ≤ x := by omega
    have h2 : 10 ^ j ≤ x := Nat.le_trans (Nat.pow_le_pow_right (by omega) (by omega)) h1
    obtain ⟨by', f1, f2⟩ := pnS (k := wh (fun k (q : Int32 × Int32 × (Nat → Int32)) => S_X3_putNumber_3 (nI x) k q.1 q.2.1 q.2.2) N) (x := x) (d := 10 ^ (j + 1)) hx (Nat.pow_pos (by omega)) (by omega) hP (by omega) (Or.inl h1)
    have e0 : (L ++ [48 + x / 10 ^ (j + 1) % 10]).length = L.length + 1 := by rw [List.length_append]; rfl
    obtain ⟨by2, g1, g2⟩ := ih (by omega) (Or.inl h2) N (by omega) f2 (by rw [e0]; omega)
    have e : L ++ dgs x (j + 1) = (L ++ [48 + x / 10 ^ (j + 1) % 10]) ++ dgs x j := by rw [List.append_assoc]; rfl
    rw [e]
    refine ⟨by2, ?_, g2⟩
    show S_X3_putNumber_3 (nI x) (wh _ N) (nI (10 ^ (j + 1))) len by_ = _
    rw [f1, pw10]
    exact g1
/-- from 10^j on, when it doesn't -/
theorem p_pnB {x : Nat} (hx : x < 2 ^ 31) : ∀ j, j ≤ 9 → x < 10 ^ (j + 1) → ∀ N {L : List Nat} {len : Int32} {by_ : Nat → Int32}, j + 1 < N → PG L len by_ → L.length + (dgl 12 x).length ≤ 1056 → ∃ by', wh (fun k (q : Int32 × Int32 × (Nat → Int32)) => S_X3_putNumber_3 (nI x) k q.1 q.2.1 q.2.2) N (nI (10 ^ j), len, by_) = some (nI (L ++ dgl 12 x).length, by') ∧ PG (L ++ dgl 12 x) (nI (L ++ dgl 12 x).length) by' := by
  intro j
  induction j with
  | zero =>
    intro _ h1 N L len by_ hN hP hl
    have e := dgl_dgs 0 12 x (by omega) (Or.inr rfl) h1
    rw [e, dgs_len] at hl
    rw [e]
    exact p_pnA hx 0 (by omega) (Or.inr rfl) N hN hP hl
  | succ j ih =>
    intro hj h1 N L len by_ hN hP hl
    by_cases c : 10 ^ (j + 1) ≤ x
    · have e := dgl_dgs (j + 1) 12 x (by omega) (Or.inl c) h1
      rw [e, dgs_len] at hl
      rw [e]
      exact p_pnA hx (j + 1) hj (Or.inl c) N hN hP hl
    · obtain ⟨N, rfl⟩ : ∃ N', N = N' + 1 := ⟨N - 1, by omega⟩
      have hb : 10 ^ (j + 1) ≤ 10 ^ 9 := Nat.pow_le_pow_right (by omega) hj
      have hb1 : 10 ^ 1 ≤ 10 ^ (j + 1) := Nat.pow_le_pow_right (by omega) (by omega)
      obtain ⟨by', f1, f2⟩ := ih (by omega) (by omega) N (by omega) hP hl
      refine ⟨by', ?_, f2⟩
      show S_X3_putNumber_3 (nI x) (wh _ N) (nI (10 ^ (j + 1))) len by_ = _
      rw [pnK hx (by omega) (by omega) (by omega), pw10]
      exact f1
theorem p_putNumber {x : Nat} (hx : x < 2 ^ 31) {L : List Nat} {len : Int32} {by_ : Nat → Int32} (hP : PG L len by_) (hl : L.length + (dgl 12 x).length ≤ 1056) : ∃ by', F_X3_putNumber (nI x) len by_ = some (nI (L ++ dgl 12 x).length, by') ∧ PG (L ++ dgl 12 x) (nI (L ++ dgl 12 x).length) by' := by
  obtain ⟨by', f1, f2⟩ := p_pnB hx 9 (by omega) (by omega) wF (by unfold wF; omega) hP hl
  have f1 : wh (fun k (q : Int32 × Int32 × (Nat → Int32)) => S_X3_putNumber_3 (nI x) k q.1 q.2.1 q.2.2) wF ((1000000000 : Int32), len, by_) = some (nI (L ++ dgl 12 x).length, by') := f1
  unfold F_X3_putNumber
  rw [ob2_s f1]
  exact ⟨_, rfl, f2⟩
