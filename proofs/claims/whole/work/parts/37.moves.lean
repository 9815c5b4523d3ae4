/-! ===== segments taken out and moved ===== -/
/-- the rows of B are A's rows p, of n segments; the rest of them 0 or whatever -/
def rws (A B : Nat → Nat) (p : Nat → Nat) (n : Nat) : Prop := B 6 = n ∧ (∀ j, j < 6 ∨ (7 ≤ j ∧ j < 10) ∨ 394 ≤ j → B j = A j) ∧ ∀ s, s < n → p s < A 6 ∧ ∀ w, w < 12 → oA B s w = oA A (p s) w
theorem rws_VA {A B : Nat → Nat} {p : Nat → Nat} {n : Nat} (hV : VA A) (h : rws A B p n) (hn : n ≤ 32) (hp : ∀ s t, s < n → t < n → p s = p t → s = t) : VA B := by
  have hnw := hV.nw
  have hl := hV.nl
  have hk := hV.kept
  obtain ⟨h6, he, hr⟩ := h
  obtain ⟨⟨c0, c1, c2, c3, c4, c5, c6, c7, c8⟩, ⟨i1, i2, i3⟩, ⟨j1, j2⟩, ⟨k1, k2, k3⟩, l1⟩ := hV
  unfold VA
  rw [h6, he 0 (by omega), he 1 (by omega), he 2 (by omega), he 3 (by omega), he 4 (by omega), he 5 (by omega), he 7 (by omega), he 8 (by omega), he 409 (by omega), he 410 (by omega)]
  refine ⟨⟨c0, c1, c2, c3, c4, c5, hn, c7, c8⟩, ⟨fun t ht => ?_, fun t ht k hk => ?_, fun t u ht hu hh => ?_⟩, ⟨fun i hi => ?_, fun i j hij hj => ?_⟩, ⟨k1, k2, fun s hs => ?_⟩, fun w hw => ?_⟩
  · have b := hr t ht
    rw [b.2 0 (by omega), b.2 1 (by omega), b.2 2 (by omega), b.2 11 (by omega)]
    exact i1 _ b.1
  · have b := hr t ht
    have b1 := i1 _ b.1
    rw [b.2 2 (by omega)] at hk
    rw [b.2 (3 + k) (by omega)]
    exact i2 _ b.1 k hk
  · have b := hr t ht
    have b2 := hr u hu
    rw [b.2 11 (by omega), b2.2 11 (by omega)] at hh
    exact hp t u ht hu (i3 _ _ b.1 b2.1 hh)
  · rw [he _ (by omega), he _ (by omega), he _ (by omega)]; exact j1 i hi
  · rw [he _ (by omega), he _ (by omega)]; exact j2 i j hij hj
  · rw [he _ (by omega), he _ (by omega)]; exact k3 s hs
  · rw [he _ (by omega)]; exact l1 w hw
theorem rws_TR {A B : Nat → Nat} {p : Nat → Nat} {n : Nat} {sc wc : Int32} {ord ord' dur pau siz wor : Nat → Int32} {nam : Nat → Int64} (hV : VA A) (h : rws A B p n) (ho : ∀ s, s < n → ord' s = ord (p s)) (hT : TR A sc wc ord dur pau siz wor nam) : TR B (nI n) wc ord' dur pau siz wor nam := by
  have hnw := hV.nw
  obtain ⟨h6, he, hr⟩ := h
  unfold TR
  rw [h6, he 7 (by omega)]
  refine ⟨rfl, hT.2.1, fun s hs => ?_, fun w hw => ?_⟩
  · have b := hr s hs
    have b1 := hT.2.2.1 _ b.1
    have b2 := hV.seg b.1
    rw [ho s hs, b.2 11 (by omega), b.2 0 (by omega), b.2 1 (by omega), b.2 2 (by omega)]
    refine ⟨b1.1, b1.2.1, b1.2.2.1, b1.2.2.2.1, fun k hk => ?_⟩
    rw [b.2 (3 + k) (by omega)]
    exact b1.2.2.2.2 k hk
  · rw [he _ (by omega)]; exact hT.2.2.2 w hw
/-- the show without segment s -/
def rmA (A : Nat → Nat) (s : Nat) : Nat → Nat := fun j => if j = 6 then A 6 - 1 else if 10 + 12 * s ≤ j ∧ j < 10 + 12 * (A 6 - 1) then A (j + 12) else if 10 + 12 * (A 6 - 1) ≤ j ∧ j < 10 + 12 * (A 6 - 1) + 12 then 0 else A j
theorem rm_rws {A : Nat → Nat} (hV : VA A) {s : Nat} (hs : s < A 6) : rws A (rmA A s) (fun t => if t < s then t else t + 1) (A 6 - 1) := by
  have hn := hV.n
  refine ⟨if_pos rfl, fun j hj => ?_, fun t ht => ⟨?_, fun w hw => ?_⟩⟩
  · unfold rmA
    rw [if_neg (by omega), if_neg (by omega), if_neg (by omega)]
  · dsimp only; split <;> omega
  · unfold oA rmA
    rw [if_neg (by omega)]
    by_cases h : t < s
    · rw [if_neg (by omega), if_neg (by omega)]
      dsimp only
      rw [if_pos h]
    · rw [if_pos (by omega)]
      dsimp only
      rw [if_neg h]
      congr 1; omega
/-- the show with segment s at place t -/
def mvp (s t r : Nat) : Nat := if r = t then s else if s ≤ r ∧ r < t then r + 1 else if t < r ∧ r ≤ s then r - 1 else r
def mvA (A : Nat → Nat) (s t : Nat) : Nat → Nat := fun j => if 10 ≤ j ∧ j < 394 then A (10 + 12 * mvp s t ((j - 10) / 12) + (j - 10) % 12) else A j
theorem mv_o {A : Nat → Nat} {s t r w : Nat} (hr : r < 32) (hw : w < 12) : oA (mvA A s t) r w = oA A (mvp s t r) w := by
  unfold oA mvA
  rw [if_pos (by omega), show (10 + 12 * r + w - 10) / 12 = r by omega, show (10 + 12 * r + w - 10) % 12 = w by omega]
theorem mv_rws {A : Nat → Nat} (hV : VA A) {s t : Nat} (hs : s < A 6) (ht : t < A 6) : rws A (mvA A s t) (mvp s t) (A 6) := by
  have hn := hV.n
  refine ⟨?_, fun j hj => ?_, fun r hr => ⟨?_, fun w hw => mv_o (by omega) hw⟩⟩
  · unfold mvA; exact if_neg (by omega)
  · unfold mvA; exact if_neg (by omega)
  · unfold mvp; split
    · exact hs
    · split
      · omega
      · split <;> omega
theorem mvp_inj {s t r q : Nat} (h : mvp s t r = mvp s t q) : r = q := by
  unfold mvp at h
  split at h <;> split at h <;> (try split at h) <;> (try split at h) <;> (try split at h) <;> (try split at h) <;> omega
section
variable {A : Nat → Nat} {a : Nat → Int64} {sc wc : Int32} {ord dur pau siz wor : Nat → Int32} {nam : Nat → Int64}
theorem p_dropSegment (hV : VA A) (h : TR A sc wc ord dur pau siz wor nam) {s : Nat} (hs : s < A 6) : ∃ ord', F_X9_dropSegment (nI s) sc ord = some (nI (A 6 - 1), ord') ∧ TR (rmA A s) (nI (A 6 - 1)) wc ord' dur pau siz wor nam := by
  have hn := hV.n
  have hsc := h.1
  subst hsc
  obtain ⟨o', f1, f2⟩ : ∃ o', wh (fun k q => S_X9_dropSegment_2 (nI (A 6)) k q.1 q.2) wF (nI s, ord) = some o' ∧ ∀ t, t < A 6 - 1 → o' t = ord (if t < s then t else t + 1) := by
    refine wh_up (A 6 - 1 - s) (by omega) (fun (j : Nat) (q : Int32 × (Nat → Int32)) => q.1 = nI (s + j) ∧ (∀ t, t < s + j → q.2 t = ord (if t < s then t else t + 1)) ∧ ∀ t, s + j ≤ t → q.2 t = ord t) (fun (o : Option (((Nat → Int32)))) => ∃ o', o = some o' ∧ ∀ t, t < A 6 - 1 → o' t = ord (if t < s then t else t + 1)) (fun j q hj hI k hk => ?_) (Nat.zero_le _) ⟨rfl, fun t ht => by rw [if_pos (by omega)], fun _ _ => rfl⟩
    obtain ⟨l, P⟩ := q
    obtain ⟨e1, e2, e3⟩ := hI
    have e1 : l = nI (s + j) := e1
    subst e1
    have e2 : ∀ t, t < s + j → P t = ord (if t < s then t else t + 1) := e2
    have e3 : ∀ t, s + j ≤ t → P t = ord t := e3
    by_cases hlt : j < A 6 - 1 - s
    · have h5 := e3 (s + j + 1) (by omega)
      have h9 := hk hlt (nI (s + j + 1), upd P (s + j) (ord (s + j + 1))) ⟨rfl, fun t ht => ?_, fun t ht => ?_⟩
      · simp (disch := omega) only [fa_lit, fa_litL, nI_add, pk_mul, pk_sub, nI_clamp, gi_n, gb_0, gb_1, nI_ltI, nI_leI, nI_eq, lc_lt, lc_gt, lc_ge, lc_le, lc_eq, lN_i, nI_l, lN_add, lN_mul, lN_lt, lN_le, lN_eq, mI_eqR, mI_eqL, mI_ltL, mI_ltR, mI_leL, mI_leR, mI_add, ob1_some, ob2_some, ob3_some, ob4_some, ob5_some, ob6_some, ob7_some, ob8_some, if_true, if_false, if_pos, if_neg, Sum.elim_inl, Sum.elim_inr, un1, un2, un3, un4, un5, Nat.zero_add, Nat.add_zero, Nat.mul_one, Nat.mul_zero, Nat.sub_zero, pk_us, pk_uLs, xoq_l, xoq_r, nI_sle, S_X9_dropSegment_2, h5]
        exact h9
      · show upd P (s + j) _ t = _
        by_cases h0 : t = s + j
        · subst h0; rw [pk_us, if_neg (by omega)]
        · rw [pk_un h0]; exact e2 t (by omega)
      · show upd P (s + j) _ t = _
        rw [pk_un (by omega)]; exact e3 t (by omega)
    · refine ⟨P, ?_, fun t ht => e2 t (by omega)⟩
      simp (disch := omega) only [fa_lit, fa_litL, nI_add, pk_mul, pk_sub, nI_clamp, gi_n, gb_0, gb_1, nI_ltI, nI_leI, nI_eq, lc_lt, lc_gt, lc_ge, lc_le, lc_eq, lN_i, nI_l, lN_add, lN_mul, lN_lt, lN_le, lN_eq, mI_eqR, mI_eqL, mI_ltL, mI_ltR, mI_leL, mI_leR, mI_add, ob1_some, ob2_some, ob3_some, ob4_some, ob5_some, ob6_some, ob7_some, ob8_some, if_true, if_false, if_pos, if_neg, Sum.elim_inl, Sum.elim_inr, un1, un2, un3, un4, un5, Nat.zero_add, Nat.add_zero, Nat.mul_one, Nat.mul_zero, Nat.sub_zero, pk_us, pk_uLs, xoq_l, xoq_r, nI_sle, S_X9_dropSegment_2]
  refine ⟨o', ?_, rws_TR hV (rm_rws hV hs) f2 h⟩
  unfold F_X9_dropSegment
  simp only [fa_lit]
  rw [ob1_s f1, pk_sub (by omega)]
theorem q_removeLoop (hV : VA A) (hM : MR A a) {s : Nat} {km th : Int32} {kp : Nat → Int64} (hs : s < A 6) : ∃ a1 a2, wh (fun k q => S_X11_removeSegment_45 (nI (A 6 - 1)) km th kp k q.1 q.2) wF (nI (10 + 12 * s), a) = some a1 ∧ wh (fun k q => S_X11_removeSegment_85 (nI (A 6 - 1)) km th kp k q.1 q.2) wF (nI (10 + 12 * (A 6 - 1)), a1) = some a2 ∧ MR (rmA A s) (vp_updL a2 6 (lN (A 6 - 1))) := by
  have hn := hV.n
  obtain ⟨a1, f1, f2, f3⟩ : ∃ a1, wh (fun k q => S_X11_removeSegment_45 (nI (A 6 - 1)) km th kp k q.1 q.2) wF (nI (10 + 12 * s), a) = some a1 ∧ (∀ j, 10 + 12 * s ≤ j → j < 10 + 12 * (A 6 - 1) → a1 j = lN (A (j + 12))) ∧ ∀ j, j < 10 + 12 * s ∨ 10 + 12 * (A 6 - 1) ≤ j → a1 j = a j := by
    refine wh_up (12 * (A 6 - 1) - 12 * s) (by omega) (fun (j : Nat) (q : Int32 × (Nat → Int64)) => q.1 = nI (10 + 12 * s + j) ∧ (∀ i, 10 + 12 * s ≤ i → i < 10 + 12 * s + j → q.2 i = lN (A (i + 12))) ∧ ∀ i, i < 10 + 12 * s ∨ 10 + 12 * s + j ≤ i → q.2 i = a i) (fun (o : Option (((Nat → Int64)))) => ∃ a1, o = some a1 ∧ (∀ j, 10 + 12 * s ≤ j → j < 10 + 12 * (A 6 - 1) → a1 j = lN (A (j + 12))) ∧ ∀ j, j < 10 + 12 * s ∨ 10 + 12 * (A 6 - 1) ≤ j → a1 j = a j) (fun j q hj hI k hk => ?_) (Nat.zero_le _) ⟨rfl, fun i h1 h2 => by omega, fun _ _ => rfl⟩
    obtain ⟨l, P⟩ := q
    obtain ⟨e1, e2, e3⟩ := hI
    have e1 : l = nI (10 + 12 * s + j) := e1
    subst e1
    have e2 : ∀ i, 10 + 12 * s ≤ i → i < 10 + 12 * s + j → P i = lN (A (i + 12)) := e2
    have e3 : ∀ i, i < 10 + 12 * s ∨ 10 + 12 * s + j ≤ i → P i = a i := e3
    by_cases hlt : j < 12 * (A 6 - 1) - 12 * s
    · have h5 := e3 (10 + 12 * s + j + 12) (by omega)
      rw [hM _ (show 10 + 12 * s + j + 12 < 499 by omega)] at h5
      have h9 := hk hlt (nI (10 + 12 * s + j + 1), vp_updL P (10 + 12 * s + j) (lN (A (10 + 12 * s + j + 12)))) ⟨rfl, fun i h1 h2 => ?_, fun i h1 => ?_⟩
      · simp (disch := omega) only [fa_lit, fa_litL, nI_add, pk_mul, pk_sub, nI_clamp, gi_n, gb_0, gb_1, nI_ltI, nI_leI, nI_eq, lc_lt, lc_gt, lc_ge, lc_le, lc_eq, lN_i, nI_l, lN_add, lN_mul, lN_lt, lN_le, lN_eq, mI_eqR, mI_eqL, mI_ltL, mI_ltR, mI_leL, mI_leR, mI_add, ob1_some, ob2_some, ob3_some, ob4_some, ob5_some, ob6_some, ob7_some, ob8_some, if_true, if_false, if_pos, if_neg, Sum.elim_inl, Sum.elim_inr, un1, un2, un3, un4, un5, Nat.zero_add, Nat.add_zero, Nat.mul_one, Nat.mul_zero, Nat.sub_zero, pk_us, pk_uLs, xoq_l, xoq_r, nI_sle, S_X11_removeSegment_45, h5]
        exact h9
      · show vp_updL P (10 + 12 * s + j) _ i = _
        by_cases h0 : i = 10 + 12 * s + j
        · subst h0; exact pk_uLs
        · rw [pk_uLn h0]; exact e2 i h1 (by omega)
      · show vp_updL P (10 + 12 * s + j) _ i = _
        rw [pk_uLn (by omega)]; exact e3 i (by omega)
    · refine ⟨P, ?_, fun i h1 h2 => e2 i h1 (by omega), fun i h1 => e3 i (by omega)⟩
      simp (disch := omega) only [fa_lit, fa_litL, nI_add, pk_mul, pk_sub, nI_clamp, gi_n, gb_0, gb_1, nI_ltI, nI_leI, nI_eq, lc_lt, lc_gt, lc_ge, lc_le, lc_eq, lN_i, nI_l, lN_add, lN_mul, lN_lt, lN_le, lN_eq, mI_eqR, mI_eqL, mI_ltL, mI_ltR, mI_leL, mI_leR, mI_add, ob1_some, ob2_some, ob3_some, ob4_some, ob5_some, ob6_some, ob7_some, ob8_some, if_true, if_false, if_pos, if_neg, Sum.elim_inl, Sum.elim_inr, un1, un2, un3, un4, un5, Nat.zero_add, Nat.add_zero, Nat.mul_one, Nat.mul_zero, Nat.sub_zero, pk_us, pk_uLs, xoq_l, xoq_r, nI_sle, S_X11_removeSegment_45]
  obtain ⟨a2, f4, f5, f6⟩ : ∃ a2, wh (fun k q => S_X11_removeSegment_85 (nI (A 6 - 1)) km th kp k q.1 q.2) wF (nI (10 + 12 * (A 6 - 1)), a1) = some a2 ∧ (∀ j, 10 + 12 * (A 6 - 1) ≤ j → j < 10 + 12 * (A 6 - 1) + 12 → a2 j = lN 0) ∧ ∀ j, j < 10 + 12 * (A 6 - 1) ∨ 10 + 12 * (A 6 - 1) + 12 ≤ j → a2 j = a1 j := by
    refine wh_up 12 (by omega) (fun (j : Nat) (q : Int32 × (Nat → Int64)) => q.1 = nI (10 + 12 * (A 6 - 1) + j) ∧ (∀ i, 10 + 12 * (A 6 - 1) ≤ i → i < 10 + 12 * (A 6 - 1) + j → q.2 i = lN 0) ∧ ∀ i, i < 10 + 12 * (A 6 - 1) ∨ 10 + 12 * (A 6 - 1) + j ≤ i → q.2 i = a1 i) (fun (o : Option (((Nat → Int64)))) => ∃ a2, o = some a2 ∧ (∀ j, 10 + 12 * (A 6 - 1) ≤ j → j < 10 + 12 * (A 6 - 1) + 12 → a2 j = lN 0) ∧ ∀ j, j < 10 + 12 * (A 6 - 1) ∨ 10 + 12 * (A 6 - 1) + 12 ≤ j → a2 j = a1 j) (fun j q hj hI k hk => ?_) (Nat.zero_le _) ⟨rfl, fun i h1 h2 => by omega, fun _ _ => rfl⟩
    obtain ⟨l, P⟩ := q
    obtain ⟨e1, e2, e3⟩ := hI
    have e1 : l = nI (10 + 12 * (A 6 - 1) + j) := e1
    subst e1
    have e2 : ∀ i, 10 + 12 * (A 6 - 1) ≤ i → i < 10 + 12 * (A 6 - 1) + j → P i = lN 0 := e2
    have e3 : ∀ i, i < 10 + 12 * (A 6 - 1) ∨ 10 + 12 * (A 6 - 1) + j ≤ i → P i = a1 i := e3
    by_cases hlt : j < 12
    · have h9 := hk hlt (nI (10 + 12 * (A 6 - 1) + j + 1), vp_updL P (10 + 12 * (A 6 - 1) + j) (lN 0)) ⟨rfl, fun i h1 h2 => ?_, fun i h1 => ?_⟩
      · simp (disch := omega) only [fa_lit, fa_litL, nI_add, pk_mul, pk_sub, nI_clamp, gi_n, gb_0, gb_1, nI_ltI, nI_leI, nI_eq, lc_lt, lc_gt, lc_ge, lc_le, lc_eq, lN_i, nI_l, lN_add, lN_mul, lN_lt, lN_le, lN_eq, mI_eqR, mI_eqL, mI_ltL, mI_ltR, mI_leL, mI_leR, mI_add, ob1_some, ob2_some, ob3_some, ob4_some, ob5_some, ob6_some, ob7_some, ob8_some, if_true, if_false, if_pos, if_neg, Sum.elim_inl, Sum.elim_inr, un1, un2, un3, un4, un5, Nat.zero_add, Nat.add_zero, Nat.mul_one, Nat.mul_zero, Nat.sub_zero, pk_us, pk_uLs, xoq_l, xoq_r, nI_sle, S_X11_removeSegment_85]
        exact h9
      · show vp_updL P (10 + 12 * (A 6 - 1) + j) _ i = _
        by_cases h0 : i = 10 + 12 * (A 6 - 1) + j
        · subst h0; exact pk_uLs
        · rw [pk_uLn h0]; exact e2 i h1 (by omega)
      · show vp_updL P (10 + 12 * (A 6 - 1) + j) _ i = _
        rw [pk_uLn (by omega)]; exact e3 i (by omega)
    · refine ⟨P, ?_, fun i h1 h2 => e2 i h1 (by omega), fun i h1 => e3 i (by omega)⟩
      simp (disch := omega) only [fa_lit, fa_litL, nI_add, pk_mul, pk_sub, nI_clamp, gi_n, gb_0, gb_1, nI_ltI, nI_leI, nI_eq, lc_lt, lc_gt, lc_ge, lc_le, lc_eq, lN_i, nI_l, lN_add, lN_mul, lN_lt, lN_le, lN_eq, mI_eqR, mI_eqL, mI_ltL, mI_ltR, mI_leL, mI_leR, mI_add, ob1_some, ob2_some, ob3_some, ob4_some, ob5_some, ob6_some, ob7_some, ob8_some, if_true, if_false, if_pos, if_neg, Sum.elim_inl, Sum.elim_inr, un1, un2, un3, un4, un5, Nat.zero_add, Nat.add_zero, Nat.mul_one, Nat.mul_zero, Nat.sub_zero, pk_us, pk_uLs, xoq_l, xoq_r, nI_sle, S_X11_removeSegment_85]
  refine ⟨a1, a2, f1, f4, fun j hj => ?_⟩
  unfold rmA
  by_cases h6 : j = 6
  · subst h6; rw [pk_uLs, if_pos rfl]
  · rw [pk_uLn h6, if_neg h6]
    by_cases h1 : 10 + 12 * s ≤ j ∧ j < 10 + 12 * (A 6 - 1)
    · rw [if_pos h1, f6 j (by omega), f2 j h1.1 h1.2]
    · rw [if_neg h1]
      by_cases h2 : 10 + 12 * (A 6 - 1) ≤ j ∧ j < 10 + 12 * (A 6 - 1) + 12
      · rw [if_pos h2, f5 j h2.1 h2.2]
      · rw [if_neg h2, f6 j (by omega), f3 j (by omega)]
        exact hM j hj
/-! moving -/
theorem p_shiftSegment (hV : VA A) (h : TR A sc wc ord dur pau siz wor nam) {s t : Nat} (hs : s < A 6) (ht : t < A 6) : ∃ ord', F_X9_shiftSegment (nI s) (nI t) ord = some ord' ∧ TR (mvA A s t) sc wc ord' dur pau siz wor nam := by
  have hn := hV.n
  obtain ⟨o1, f1, f2, f3⟩ : ∃ o1, wh (fun k q => S_X9_shiftSegment_10 (nI s) (nI t) (ord s) k q.1 q.2) wF (nI s, ord) = some o1 ∧ (∀ r, s ≤ r → r < t → o1 r = ord (r + 1)) ∧ ∀ r, r < s ∨ t ≤ r → o1 r = ord r := by
    refine wh_up (t - s) (by omega) (fun (j : Nat) (q : Int32 × (Nat → Int32)) => q.1 = nI (s + j) ∧ (∀ r, s ≤ r → r < s + j → q.2 r = ord (r + 1)) ∧ ∀ r, r < s ∨ s + j ≤ r → q.2 r = ord r) (fun (o : Option (((Nat → Int32)))) => ∃ o1, o = some o1 ∧ (∀ r, s ≤ r → r < t → o1 r = ord (r + 1)) ∧ ∀ r, r < s ∨ t ≤ r → o1 r = ord r) (fun j q hj hI k hk => ?_) (Nat.zero_le _) ⟨rfl, fun r h1 h2 => by omega, fun _ _ => rfl⟩
    obtain ⟨l, P⟩ := q
    obtain ⟨e1, e2, e3⟩ := hI
    have e1 : l = nI (s + j) := e1
    subst e1
    have e2 : ∀ r, s ≤ r → r < s + j → P r = ord (r + 1) := e2
    have e3 : ∀ r, r < s ∨ s + j ≤ r → P r = ord r := e3
    by_cases hlt : j < t - s
    · have h5 := e3 (s + j + 1) (by omega)
      have h9 := hk hlt (nI (s + j + 1), upd P (s + j) (ord (s + j + 1))) ⟨rfl, fun r h1 h2 => ?_, fun r h1 => ?_⟩
      · simp (disch := omega) only [fa_lit, fa_litL, nI_add, pk_mul, pk_sub, nI_clamp, gi_n, gb_0, gb_1, nI_ltI, nI_leI, nI_eq, lc_lt, lc_gt, lc_ge, lc_le, lc_eq, lN_i, nI_l, lN_add, lN_mul, lN_lt, lN_le, lN_eq, mI_eqR, mI_eqL, mI_ltL, mI_ltR, mI_leL, mI_leR, mI_add, ob1_some, ob2_some, ob3_some, ob4_some, ob5_some, ob6_some, ob7_some, ob8_some, if_true, if_false, if_pos, if_neg, Sum.elim_inl, Sum.elim_inr, un1, un2, un3, un4, un5, Nat.zero_add, Nat.add_zero, Nat.mul_one, Nat.mul_zero, Nat.sub_zero, pk_us, pk_uLs, xoq_l, xoq_r, nI_sle, S_X9_shiftSegment_10, h5]
        exact h9
      · show upd P (s + j) _ r = _
        by_cases h0 : r = s + j
        · subst h0; exact pk_us
        · rw [pk_un h0]; exact e2 r h1 (by omega)
      · show upd P (s + j) _ r = _
        rw [pk_un (by omega)]; exact e3 r (by omega)
    · refine ⟨P, ?_, fun r h1 h2 => e2 r h1 (by omega), fun r h1 => ?_⟩
      · simp (disch := omega) only [fa_lit, fa_litL, nI_add, pk_mul, pk_sub, nI_clamp, gi_n, gb_0, gb_1, nI_ltI, nI_leI, nI_eq, lc_lt, lc_gt, lc_ge, lc_le, lc_eq, lN_i, nI_l, lN_add, lN_mul, lN_lt, lN_le, lN_eq, mI_eqR, mI_eqL, mI_ltL, mI_ltR, mI_leL, mI_leR, mI_add, ob1_some, ob2_some, ob3_some, ob4_some, ob5_some, ob6_some, ob7_some, ob8_some, if_true, if_false, if_pos, if_neg, Sum.elim_inl, Sum.elim_inr, un1, un2, un3, un4, un5, Nat.zero_add, Nat.add_zero, Nat.mul_one, Nat.mul_zero, Nat.sub_zero, pk_us, pk_uLs, xoq_l, xoq_r, nI_sle, S_X9_shiftSegment_10]
      · by_cases h2 : s ≤ t
        · exact e3 r (by omega)
        · exact e3 r (by omega)
  obtain ⟨o2, f4, f5, f6⟩ : ∃ o2, wh (fun k q => S_X9_shiftSegment_41 (nI t) (ord s) k q.1 q.2) wF (nI s, o1) = some o2 ∧ (∀ r, t < r → r ≤ s → o2 r = ord (r - 1)) ∧ ∀ r, r ≤ t ∨ s < r → o2 r = o1 r := by
    refine wh_up (s - t) (by omega) (fun (j : Nat) (q : Int32 × (Nat → Int32)) => q.1 = nI (s - j) ∧ (∀ r, s - j < r → r ≤ s → q.2 r = ord (r - 1)) ∧ ∀ r, r ≤ s - j ∨ s < r → q.2 r = o1 r) (fun (o : Option (((Nat → Int32)))) => ∃ o2, o = some o2 ∧ (∀ r, t < r → r ≤ s → o2 r = ord (r - 1)) ∧ ∀ r, r ≤ t ∨ s < r → o2 r = o1 r) (fun j q hj hI k hk => ?_) (Nat.zero_le _) ⟨rfl, fun r h1 h2 => by omega, fun _ _ => rfl⟩
    obtain ⟨l, P⟩ := q
    obtain ⟨e1, e2, e3⟩ := hI
    have e1 : l = nI (s - j) := e1
    subst e1
    have e2 : ∀ r, s - j < r → r ≤ s → P r = ord (r - 1) := e2
    have e3 : ∀ r, r ≤ s - j ∨ s < r → P r = o1 r := e3
    by_cases hlt : j < s - t
    · have h5 := e3 (s - j - 1) (by omega)
      rw [f3 (s - j - 1) (by omega)] at h5
      have h9 := hk hlt (nI (s - (j + 1)), upd P (s - j) (ord (s - j - 1))) ⟨rfl, fun r h1 h2 => ?_, fun r h1 => ?_⟩
      · rw [show s - (j + 1) = s - j - 1 by omega] at h9
        simp (disch := omega) only [fa_lit, fa_litL, nI_add, pk_mul, pk_sub, nI_clamp, gi_n, gb_0, gb_1, nI_ltI, nI_leI, nI_eq, lc_lt, lc_gt, lc_ge, lc_le, lc_eq, lN_i, nI_l, lN_add, lN_mul, lN_lt, lN_le, lN_eq, mI_eqR, mI_eqL, mI_ltL, mI_ltR, mI_leL, mI_leR, mI_add, ob1_some, ob2_some, ob3_some, ob4_some, ob5_some, ob6_some, ob7_some, ob8_some, if_true, if_false, if_pos, if_neg, Sum.elim_inl, Sum.elim_inr, un1, un2, un3, un4, un5, Nat.zero_add, Nat.add_zero, Nat.mul_one, Nat.mul_zero, Nat.sub_zero, pk_us, pk_uLs, xoq_l, xoq_r, nI_sle, S_X9_shiftSegment_41, h5, mI_add]
        exact h9
      · show upd P (s - j) _ r = _
        by_cases h0 : r = s - j
        · subst h0; exact pk_us
        · rw [pk_un h0]; exact e2 r (by omega) h2
      · show upd P (s - j) _ r = _
        rw [pk_un (by omega)]; exact e3 r (by omega)
    · refine ⟨P, ?_, fun r h1 h2 => e2 r (by omega) h2, fun r h1 => ?_⟩
      · simp (disch := omega) only [fa_lit, fa_litL, nI_add, pk_mul, pk_sub, nI_clamp, gi_n, gb_0, gb_1, nI_ltI, nI_leI, nI_eq, lc_lt, lc_gt, lc_ge, lc_le, lc_eq, lN_i, nI_l, lN_add, lN_mul, lN_lt, lN_le, lN_eq, mI_eqR, mI_eqL, mI_ltL, mI_ltR, mI_leL, mI_leR, mI_add, ob1_some, ob2_some, ob3_some, ob4_some, ob5_some, ob6_some, ob7_some, ob8_some, if_true, if_false, if_pos, if_neg, Sum.elim_inl, Sum.elim_inr, un1, un2, un3, un4, un5, Nat.zero_add, Nat.add_zero, Nat.mul_one, Nat.mul_zero, Nat.sub_zero, pk_us, pk_uLs, xoq_l, xoq_r, nI_sle, S_X9_shiftSegment_41]
      · by_cases h2 : s ≤ t
        · exact e3 r (by omega)
        · exact e3 r (by omega)
  refine ⟨upd o2 t (ord s), ?_, ?_⟩
  · unfold F_X9_shiftSegment
    rw [gi_n (by omega) (by omega), nI_clamp (by omega), ob1_s f1, ob1_s f4, gi_n (by omega) (by omega), nI_clamp (by omega)]
  · have hsc := h.1
    subst hsc
    refine rws_TR hV (mv_rws hV hs ht) (fun r hr => ?_) h
    unfold mvp
    by_cases h0 : r = t
    · subst h0; rw [pk_us, if_pos rfl]
    · rw [pk_un h0, if_neg h0]
      by_cases h1 : s ≤ r ∧ r < t
      · rw [if_pos h1, f6 r (by omega), f2 r h1.1 h1.2]
      · rw [if_neg h1]
        by_cases h2 : t < r ∧ r ≤ s
        · rw [if_pos h2, f5 r h2.1 h2.2]
        · rw [if_neg h2, f6 r (by omega), f3 r (by omega)]
/-- two rows change places -/
def swA (A : Nat → Nat) (p q : Nat) : Nat → Nat := fun j => if 10 + 12 * p ≤ j ∧ j < 10 + 12 * p + 12 then A (j - 12 * p + 12 * q) else if 10 + 12 * q ≤ j ∧ j < 10 + 12 * q + 12 then A (j - 12 * q + 12 * p) else A j
theorem q_swaps {B : Nat → Nat} {b : Nat → Int64} (hM : MR B b) {p q : Nat} (hp : p < 32) (hq : q < 32) (hpq : p ≠ q) : ∃ b', F_X11_swaps (nI p) (nI q) b = some b' ∧ MR (swA B p q) b' := by
  have key : ∃ b', wh (fun k q' => S_X11_swaps_2 (nI p) (nI q) k q'.1 q'.2) wF (nI 0, b) = some b' ∧ MR (swA B p q) b' := by
    refine wh_up 12 (by omega) (fun (j : Nat) (x : Int32 × (Nat → Int64)) => x.1 = nI j ∧ (∀ i, i < j → x.2 (10 + 12 * p + i) = lN (B (10 + 12 * q + i)) ∧ x.2 (10 + 12 * q + i) = lN (B (10 + 12 * p + i))) ∧ ∀ i, i < 499 → ¬ (10 + 12 * p ≤ i ∧ i < 10 + 12 * p + j) → ¬ (10 + 12 * q ≤ i ∧ i < 10 + 12 * q + j) → x.2 i = lN (B i)) (fun (o : Option (((Nat → Int64)))) => ∃ b', o = some b' ∧ MR (swA B p q) b') (fun j x hj hI k hk => ?_) (Nat.zero_le _) ⟨rfl, fun i h => absurd h (Nat.not_lt_zero i), fun i h _ _ => hM i h⟩
    obtain ⟨l, P⟩ := x
    obtain ⟨e1, e2, e3⟩ := hI
    have e1 : l = nI j := e1
    subst e1
    have e2 : ∀ i, i < j → P (10 + 12 * p + i) = lN (B (10 + 12 * q + i)) ∧ P (10 + 12 * q + i) = lN (B (10 + 12 * p + i)) := e2
    have e3 : ∀ i, i < 499 → ¬ (10 + 12 * p ≤ i ∧ i < 10 + 12 * p + j) → ¬ (10 + 12 * q ≤ i ∧ i < 10 + 12 * q + j) → P i = lN (B i) := e3
    by_cases hlt : j < 12
    · have h5 := e3 (10 + 12 * p + j) (by omega) (by omega) (by omega)
      have h6 := e3 (10 + 12 * q + j) (by omega) (by omega) (by omega)
      have h9 := hk hlt (nI (j + 1), vp_updL (vp_updL P (10 + 12 * p + j) (lN (B (10 + 12 * q + j)))) (10 + 12 * q + j) (lN (B (10 + 12 * p + j)))) ⟨rfl, fun i hi => ?_, fun i h1 h2 h3 => ?_⟩
      · simp (disch := omega) only [fa_lit, fa_litL, nI_add, pk_mul, pk_sub, nI_clamp, gi_n, gb_0, gb_1, nI_ltI, nI_leI, nI_eq, lc_lt, lc_gt, lc_ge, lc_le, lc_eq, lN_i, nI_l, lN_add, lN_mul, lN_lt, lN_le, lN_eq, mI_eqR, mI_eqL, mI_ltL, mI_ltR, mI_leL, mI_leR, mI_add, ob1_some, ob2_some, ob3_some, ob4_some, ob5_some, ob6_some, ob7_some, ob8_some, if_true, if_false, if_pos, if_neg, Sum.elim_inl, Sum.elim_inr, un1, un2, un3, un4, un5, Nat.zero_add, Nat.add_zero, Nat.mul_one, Nat.mul_zero, Nat.sub_zero, pk_us, pk_uLs, xoq_l, xoq_r, nI_sle, S_X11_swaps_2, h5, h6]
        exact h9
      · show vp_updL (vp_updL P (10 + 12 * p + j) _) (10 + 12 * q + j) _ (10 + 12 * p + i) = _ ∧ vp_updL (vp_updL P (10 + 12 * p + j) _) (10 + 12 * q + j) _ (10 + 12 * q + i) = _
        by_cases h0 : i = j
        · subst h0; rw [pk_uLn (by omega), pk_uLs, pk_uLs]; exact ⟨rfl, rfl⟩
        · rw [pk_uLn (by omega), pk_uLn (by omega), pk_uLn (by omega), pk_uLn (by omega)]; exact e2 i (by omega)
      · show vp_updL (vp_updL P (10 + 12 * p + j) _) (10 + 12 * q + j) _ i = _
        rw [pk_uLn (by omega), pk_uLn (by omega)]; exact e3 i h1 (by omega) (by omega)
    · refine ⟨P, ?_, fun i hi => ?_⟩
      · simp (disch := omega) only [fa_lit, fa_litL, nI_add, pk_mul, pk_sub, nI_clamp, gi_n, gb_0, gb_1, nI_ltI, nI_leI, nI_eq, lc_lt, lc_gt, lc_ge, lc_le, lc_eq, lN_i, nI_l, lN_add, lN_mul, lN_lt, lN_le, lN_eq, mI_eqR, mI_eqL, mI_ltL, mI_ltR, mI_leL, mI_leR, mI_add, ob1_some, ob2_some, ob3_some, ob4_some, ob5_some, ob6_some, ob7_some, ob8_some, if_true, if_false, if_pos, if_neg, Sum.elim_inl, Sum.elim_inr, un1, un2, un3, un4, un5, Nat.zero_add, Nat.add_zero, Nat.mul_one, Nat.mul_zero, Nat.sub_zero, pk_us, pk_uLs, xoq_l, xoq_r, nI_sle, S_X11_swaps_2]
      · unfold swA
        by_cases h1 : 10 + 12 * p ≤ i ∧ i < 10 + 12 * p + 12
        · rw [if_pos h1]
          have h2 := (e2 (i - (10 + 12 * p)) (by omega)).1
          rw [show 10 + 12 * p + (i - (10 + 12 * p)) = i by omega, show 10 + 12 * q + (i - (10 + 12 * p)) = i - 12 * p + 12 * q by omega] at h2
          exact h2
        · rw [if_neg h1]
          by_cases h3 : 10 + 12 * q ≤ i ∧ i < 10 + 12 * q + 12
          · rw [if_pos h3]
            have h2 := (e2 (i - (10 + 12 * q)) (by omega)).2
            rw [show 10 + 12 * q + (i - (10 + 12 * q)) = i by omega, show 10 + 12 * p + (i - (10 + 12 * q)) = i - 12 * q + 12 * p by omega] at h2
            exact h2
          · rw [if_neg h3]
            exact e3 i hi (by omega) (by omega)
  obtain ⟨b', g1, g2⟩ := key
  refine ⟨b', ?_, g2⟩
  unfold F_X11_swaps
  simp only [fa_lit]
  rw [g1]; rfl
theorem sw_o {B : Nat → Nat} {p q r w : Nat} (hw : w < 12) (hpq : p ≠ q) : oA (swA B p q) r w = oA B (if r = p then q else if r = q then p else r) w := by
  unfold oA swA
  by_cases h1 : r = p
  · rw [if_pos (by omega), if_pos h1]; congr 1; omega
  · by_cases h2 : r = q
    · rw [if_neg (by omega), if_pos (by omega), if_neg h1, if_pos h2]; congr 1; omega
    · rw [if_neg (by omega), if_neg (by omega), if_neg h1, if_neg h2]
theorem sw_n {B : Nat → Nat} {p q j : Nat} (hp : p < 32) (hq : q < 32) (hj : j < 10 ∨ 394 ≤ j) : swA B p q j = B j := by
  unfold swA
  rw [if_neg (by omega), if_neg (by omega)]
theorem mv_n {s t j : Nat} (hj : j < 10 ∨ 394 ≤ j) : mvA A s t j = A j := by
  unfold mvA
  rw [if_neg (by omega)]
theorem mvp_up {s t r : Nat} (h : s ≤ t) : mvp s t (if r = t then t + 1 else if r = t + 1 then t else r) = mvp s (t + 1) r := by
  unfold mvp
  by_cases h1 : r = t
  · rw [if_pos h1]
    subst h1
    rw [if_neg (by omega), if_neg (by omega), if_neg (by omega), if_neg (by omega), if_pos (by omega)]
  · rw [if_neg h1]
    by_cases h2 : r = t + 1
    · subst h2
      rw [if_pos rfl, if_pos rfl, if_pos rfl]
    · rw [if_neg h2, if_neg h1, if_neg h2]
      by_cases h3 : s ≤ r ∧ r < t
      · rw [if_pos h3, if_pos (by omega)]
      · rw [if_neg h3, if_neg (show ¬ (s ≤ r ∧ r < t + 1) by omega)]
        by_cases h4 : t < r ∧ r ≤ s
        · omega
        · rw [if_neg h4, if_neg (by omega)]
theorem mvp_dn {s t r : Nat} (h : t + 1 ≤ s) : mvp s (t + 1) (if r = t + 1 then t else if r = t then t + 1 else r) = mvp s t r := by
  unfold mvp
  by_cases h1 : r = t + 1
  · rw [if_pos h1]
    subst h1
    rw [if_neg (show ¬ t = t + 1 by omega), if_neg (by omega), if_neg (by omega), if_neg (show ¬ t + 1 = t by omega), if_neg (by omega), if_pos (by omega)]
    omega
  · rw [if_neg h1]
    by_cases h2 : r = t
    · subst h2
      rw [if_pos rfl, if_pos rfl, if_pos rfl]
    · rw [if_neg h2, if_neg h1, if_neg h2]
      by_cases h3 : s ≤ r ∧ r < t + 1
      · omega
      · rw [if_neg h3, if_neg (show ¬ (s ≤ r ∧ r < t) by omega)]
        by_cases h4 : t + 1 < r ∧ r ≤ s
        · rw [if_pos h4, if_pos (by omega)]
        · rw [if_neg h4, if_neg (by omega)]
theorem MR.ext {B C : Nat → Nat} {b : Nat → Int64} (h : MR B b) (he : ∀ j, j < 499 → B j = C j) : MR C b := fun j hj => by rw [h j hj, he j hj]
theorem row_of {B C : Nat → Nat} (h1 : ∀ j, j < 10 ∨ 394 ≤ j → B j = C j) (h2 : ∀ r w, r < 32 → w < 12 → oA B r w = oA C r w) (j : Nat) : B j = C j := by
  by_cases h : j < 10 ∨ 394 ≤ j
  · exact h1 j h
  · have h3 := h2 ((j - 10) / 12) ((j - 10) % 12) (by omega) (by omega)
    unfold oA at h3
    rw [show 10 + 12 * ((j - 10) / 12) + (j - 10) % 12 = j by omega] at h3
    exact h3
theorem q_moveUp (hV : VA A) (hM : MR A a) {s t : Nat} {km th : Int32} {kp : Nat → Int64} (hs : s < A 6) (ht : t < A 6) (hst : s ≤ t) : ∃ a', wh (fun k q => S_X11_moveSegment_40 (nI s) (nI t) km th kp k q.1 q.2) wF (nI s, a) = some a' ∧ MR (mvA A s t) a' := by
  have hn := hV.n
  refine wh_up (t - s) (by omega) (fun (d : Nat) (q : Int32 × (Nat → Int64)) => q.1 = nI (s + d) ∧ MR (mvA A s (s + d)) q.2) (fun (o : Option (((Nat → Int64)))) => ∃ a', o = some a' ∧ MR (mvA A s t) a') (fun d q hd hI k hk => ?_) (Nat.zero_le _) ⟨rfl, hM.ext (fun j _ => row_of (fun j hj => (mv_n hj).symm) (fun r w hr hw => by
    rw [mv_o hr hw, Nat.add_zero]
    congr 1
    unfold mvp
    split
    · assumption
    · rw [if_neg (by omega), if_neg (by omega)]) j)⟩
  obtain ⟨l, P⟩ := q
  obtain ⟨e1, e2⟩ := hI
  have e1 : l = nI (s + d) := e1
  subst e1
  have e2 : MR (mvA A s (s + d)) P := e2
  by_cases hlt : d < t - s
  · obtain ⟨b', g1, g2⟩ := q_swaps e2 (p := s + d) (q := s + d + 1) (by omega) (by omega) (by omega)
    have h9 := hk hlt (nI (s + d + 1), b') ⟨rfl, g2.ext (fun j _ => row_of (fun j hj => by
      rw [sw_n (by omega) (by omega) hj, mv_n hj, mv_n hj]) (fun r w hr hw => by
      rw [sw_o hw (by omega), mv_o (by split <;> (try split) <;> omega) hw, mv_o hr hw]
      congr 1
      exact mvp_up (by omega)) j)⟩
    simp (disch := omega) only [fa_lit, fa_litL, nI_add, pk_mul, pk_sub, nI_clamp, gi_n, gb_0, gb_1, nI_ltI, nI_leI, nI_eq, lc_lt, lc_gt, lc_ge, lc_le, lc_eq, lN_i, nI_l, lN_add, lN_mul, lN_lt, lN_le, lN_eq, mI_eqR, mI_eqL, mI_ltL, mI_ltR, mI_leL, mI_leR, mI_add, ob1_some, ob2_some, ob3_some, ob4_some, ob5_some, ob6_some, ob7_some, ob8_some, if_true, if_false, if_pos, if_neg, Sum.elim_inl, Sum.elim_inr, un1, un2, un3, un4, un5, Nat.zero_add, Nat.add_zero, Nat.mul_one, Nat.mul_zero, Nat.sub_zero, pk_us, pk_uLs, xoq_l, xoq_r, nI_sle, S_X11_moveSegment_40, g1]
    exact h9
  · have h8 : s + d = t := by omega
    rw [h8] at e2
    refine ⟨P, ?_, e2⟩
    rw [h8]
    simp (disch := omega) only [fa_lit, fa_litL, nI_add, pk_mul, pk_sub, nI_clamp, gi_n, gb_0, gb_1, nI_ltI, nI_leI, nI_eq, lc_lt, lc_gt, lc_ge, lc_le, lc_eq, lN_i, nI_l, lN_add, lN_mul, lN_lt, lN_le, lN_eq, mI_eqR, mI_eqL, mI_ltL, mI_ltR, mI_leL, mI_leR, mI_add, ob1_some, ob2_some, ob3_some, ob4_some, ob5_some, ob6_some, ob7_some, ob8_some, if_true, if_false, if_pos, if_neg, Sum.elim_inl, Sum.elim_inr, un1, un2, un3, un4, un5, Nat.zero_add, Nat.add_zero, Nat.mul_one, Nat.mul_zero, Nat.sub_zero, pk_us, pk_uLs, xoq_l, xoq_r, nI_sle, S_X11_moveSegment_40]
theorem q_moveDn (hV : VA A) (hM : MR A a) {s t : Nat} {km th : Int32} {kp : Nat → Int64} (hs : s < A 6) (ht : t < A 6) (hst : t ≤ s) : ∃ a', wh (fun k q => S_X11_moveSegment_61 (nI t) km th kp k q.1 q.2) wF (nI s, a) = some a' ∧ MR (mvA A s t) a' := by
  have hn := hV.n
  refine wh_up (s - t) (by omega) (fun (d : Nat) (q : Int32 × (Nat → Int64)) => q.1 = nI (s - d) ∧ MR (mvA A s (s - d)) q.2) (fun (o : Option (((Nat → Int64)))) => ∃ a', o = some a' ∧ MR (mvA A s t) a') (fun d q hd hI k hk => ?_) (Nat.zero_le _) ⟨rfl, hM.ext (fun j _ => row_of (fun j hj => (mv_n hj).symm) (fun r w hr hw => by
    rw [mv_o hr hw, Nat.sub_zero]
    congr 1
    unfold mvp
    split
    · assumption
    · rw [if_neg (by omega), if_neg (by omega)]) j)⟩
  obtain ⟨l, P⟩ := q
  obtain ⟨e1, e2⟩ := hI
  have e1 : l = nI (s - d) := e1
  subst e1
  have e2 : MR (mvA A s (s - d)) P := e2
  by_cases hlt : d < s - t
  · obtain ⟨b', g1, g2⟩ := q_swaps e2 (p := s - d) (q := s - d - 1) (by omega) (by omega) (by omega)
    have h9 := hk hlt (nI (s - (d + 1)), b') ⟨rfl, g2.ext (fun j _ => row_of (fun j hj => by
      rw [sw_n (by omega) (by omega) hj, mv_n hj, mv_n hj]) (fun r w hr hw => by
      rw [sw_o hw (by omega), mv_o (by split <;> (try split) <;> omega) hw, mv_o hr hw]
      congr 1
      obtain ⟨u, hu⟩ : ∃ u, s - d = u + 1 := ⟨s - d - 1, by omega⟩
      rw [show s - (d + 1) = u by omega, hu, Nat.add_sub_cancel]
      exact mvp_dn (by omega)) j)⟩
    rw [show s - (d + 1) = s - d - 1 by omega] at h9
    simp (disch := omega) only [fa_lit, fa_litL, nI_add, pk_mul, pk_sub, nI_clamp, gi_n, gb_0, gb_1, nI_ltI, nI_leI, nI_eq, lc_lt, lc_gt, lc_ge, lc_le, lc_eq, lN_i, nI_l, lN_add, lN_mul, lN_lt, lN_le, lN_eq, mI_eqR, mI_eqL, mI_ltL, mI_ltR, mI_leL, mI_leR, mI_add, ob1_some, ob2_some, ob3_some, ob4_some, ob5_some, ob6_some, ob7_some, ob8_some, if_true, if_false, if_pos, if_neg, Sum.elim_inl, Sum.elim_inr, un1, un2, un3, un4, un5, Nat.zero_add, Nat.add_zero, Nat.mul_one, Nat.mul_zero, Nat.sub_zero, pk_us, pk_uLs, xoq_l, xoq_r, nI_sle, S_X11_moveSegment_61, g1, mI_add]
    exact h9
  · have h8 : s - d = t := by omega
    rw [h8] at e2
    refine ⟨P, ?_, e2⟩
    rw [h8]
    simp (disch := omega) only [fa_lit, fa_litL, nI_add, pk_mul, pk_sub, nI_clamp, gi_n, gb_0, gb_1, nI_ltI, nI_leI, nI_eq, lc_lt, lc_gt, lc_ge, lc_le, lc_eq, lN_i, nI_l, lN_add, lN_mul, lN_lt, lN_le, lN_eq, mI_eqR, mI_eqL, mI_ltL, mI_ltR, mI_leL, mI_leR, mI_add, ob1_some, ob2_some, ob3_some, ob4_some, ob5_some, ob6_some, ob7_some, ob8_some, if_true, if_false, if_pos, if_neg, Sum.elim_inl, Sum.elim_inr, un1, un2, un3, un4, un5, Nat.zero_add, Nat.add_zero, Nat.mul_one, Nat.mul_zero, Nat.sub_zero, pk_us, pk_uLs, xoq_l, xoq_r, nI_sle, S_X11_moveSegment_61]
end
