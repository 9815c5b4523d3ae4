/-! ===== the pages of chapters ===== -/
noncomputable def ttl (A : Nat → Nat) (K c : Nat) : Nat → Nat → List Nat
  | 0, _ => []
  | d + 1, k => match twd A K c k with
    | none => []
    | some w => (if k = 0 then [] else [45]) ++ (ltr 10 (A (475 + w)) ++ ttl A K c d (k + 1))
theorem ttl_n {A : Nat → Nat} {K c k : Nat} (h : twd A K c k = none) : ∀ d, ttl A K c d k = [] := by
  intro d
  cases d with
  | zero => rfl
  | succ d =>
    show (match twd A K c k with | none => [] | some w => (if k = 0 then [] else [45]) ++ (ltr 10 (A (475 + w)) ++ ttl A K c d (k + 1))) = []
    rw [h]
theorem ttl_w {A : Nat → Nat} {K c k w : Nat} (h : twd A K c k = some w) {d : Nat} : ttl A K c (d + 1) k = (if k = 0 then [] else [45]) ++ (ltr 10 (A (475 + w)) ++ ttl A K c d (k + 1)) := by
  show (match twd A K c k with | none => [] | some w => (if k = 0 then [] else [45]) ++ (ltr 10 (A (475 + w)) ++ ttl A K c d (k + 1))) = _
  rw [h]
theorem twd_n {A : Nat → Nat} {K c k : Nat} (h : twd A K c k = none) : twd A K c (k + 1) = none := by
  show (match twd A K c k with | none => none | some v => nxi A K c (aft A K c (some v)) (A 7)) = none
  rw [h]
theorem ttw_lt {A : Nat → Nat} {K c : Nat} : ∀ k w, twd A K c k = some w → w < A 7 := by
  intro k w h
  cases k with
  | zero => exact nxi_lt h
  | succ k =>
    have h : (match twd A K c k with | none => none | some v => nxi A K c (aft A K c (some v)) (A 7)) = some w := h
    cases h2 : twd A K c k with
    | none => rw [h2] at h; cases h
    | some v => rw [h2] at h; exact nxi_lt h
theorem ttl_len {A : Nat → Nat} (hV : VA A) {K c : Nat} : ∀ d k, 0 < k → (ttl A K c d k).length ≤ 9 * d := by
  intro d
  induction d with
  | zero => intro k _; exact Nat.zero_le _
  | succ d ih =>
    intro k hk
    cases h : twd A K c k with
    | none => rw [ttl_n h]; exact Nat.zero_le _
    | some w =>
      rw [ttl_w h, if_neg (by omega), List.length_append, List.length_append]
      have h1 := ih (k + 1) (by omega)
      have h2 := ltr_ok 8 10 _ (hV.nm (ttw_lt k w h))
      show 1 + _ ≤ _
      omega
theorem ttl_26 {A : Nat → Nat} (hV : VA A) {K c : Nat} : (ttl A K c 3 0).length ≤ 26 := by
  cases h : twd A K c 0 with
  | none => rw [ttl_n h]; exact Nat.zero_le _
  | some w =>
    rw [ttl_w h, if_pos rfl, List.nil_append, List.length_append]
    have h1 := ttl_len hV (K := K) (c := c) 2 1 (by omega)
    have h2 := ltr_ok 8 10 _ (hV.nm (ttw_lt 0 w h))
    show _ + (ttl A K c 2 (0 + 1)).length ≤ _
    have h3 : (ttl A K c 2 (0 + 1)).length ≤ 18 := h1
    omega
theorem rtm_le {A : Nat → Nat} (hV : VA A) {s : Nat} : ∀ i, i ≤ A 8 → rtm A s i ≤ 300 * i := by
  intro i
  induction i with
  | zero => intro _; exact Nat.le_refl _
  | succ i ih =>
    intro hi
    have h1 := ih (by omega)
    have h2 := hV.slot (i := i) (by omega)
    cases h : plc A i with
    | none =>
      have : rtm A s (i + 1) = rtm A s i := by
        show (match plc A i with | none => rtm A s i | some x => if x.1 < s then rtm A s i + A (394 + 3 * i + 1) else rtm A s i) = _
        rw [h]
      omega
    | some x =>
      rw [rtm_s h]
      split <;> omega
theorem rtt_le {A : Nat → Nat} (hV : VA A) {s : Nat} (hs : s ≤ A 6) : rtt A s < 100000 := by
  have h1 := sp_b hV hs
  have h2 := rtm_le hV (s := s) (A 8) (Nat.le_refl _)
  have h3 := hV.nl
  unfold rtt
  split <;> omega
theorem dgl_5 {x : Nat} (h : x < 100000) : (dgl 12 x).length ≤ 5 := by
  by_cases c1 : x < 10
  · rw [dgl_dgs 0 12 x (by omega) (Or.inr rfl) (by omega), dgs_len]; omega
  · by_cases c2 : x < 100
    · rw [dgl_dgs 1 12 x (by omega) (Or.inl (by omega)) (by omega), dgs_len]; omega
    · by_cases c3 : x < 1000
      · rw [dgl_dgs 2 12 x (by omega) (Or.inl (by omega)) (by omega), dgs_len]; omega
      · by_cases c4 : x < 10000
        · rw [dgl_dgs 3 12 x (by omega) (Or.inl (by omega)) (by omega), dgs_len]; omega
        · rw [dgl_dgs 4 12 x (by omega) (Or.inl (by omega)) (by omega), dgs_len]; omega
noncomputable def chl (A : Nat → Nat) (K c : Nat) : List Nat := dgl 12 (rtt A (bg (tbl A) c)) ++ ([32] ++ (ttl A K c 3 0 ++ [59]))
noncomputable def pgc (A : Nat → Nat) (K : Nat) : Nat → List Nat
  | 0 => []
  | n + 1 => pgc A K n ++ chl A K n
theorem chl_33 {A : Nat → Nat} (hV : VA A) {K c : Nat} (hb : bg (tbl A) c ≤ A 6) : (chl A K c).length ≤ 33 := by
  have h1 := dgl_5 (rtt_le hV hb)
  have h2 := ttl_26 hV (K := K) (c := c)
  unfold chl
  rw [List.length_append, List.length_append, List.length_append]
  show _ + (1 + (_ + 1)) ≤ _
  omega
theorem pgc_len {A : Nat → Nat} (hV : VA A) {x : Int × Nat × Nat} (hx : tbl A 0 = some x) : ∀ n, n ≤ x.2.1 + 1 → (pgc A x.2.1 n).length ≤ 33 * n := by
  intro n
  induction n with
  | zero => intro _; exact Nat.le_refl _
  | succ n ih =>
    intro hn
    have h1 := ih (by omega)
    have h2 := ((tbl_cht hx).1 n (by omega)).1
    have h3 := chl_33 hV (K := x.2.1) (c := n) (by omega)
    show (pgc A x.2.1 n ++ chl A x.2.1 n).length ≤ _
    rw [List.length_append]
    omega
section
variable {A : Nat → Nat} {a : Nat → Int64} {x : Int × Nat × Nat} {spd cnt W C E : Nat → Int32} {nam : Nat → Int64}
theorem p_writeTitle (hV : VA A) (hx : tbl A 0 = some x) (hT : TV A spd cnt) (hn : ∀ w, w < A 7 → nam w = lN (A (475 + w))) {c : Nat} (hc : c ≤ x.2.1) {L : List Nat} {len : Int32} {by_ : Nat → Int32} (hP : PG L len by_) (hl : L.length + (ttl A x.2.1 c 3 0).length ≤ 1056) :
    ∃ by', F_X10_writeTitle (nI c) nam spd cnt len by_ = some (nI (L ++ ttl A x.2.1 c 3 0).length, by') ∧ PG (L ++ ttl A x.2.1 c 3 0) (nI (L ++ ttl A x.2.1 c 3 0).length) by' := by
  have hw := hV.nw
  have key : ∃ by', (wh (fun k (q : Int32 × (Int32) × (Nat → Int32)) => S_X10_writeTitle_2 (nI c) nam spd cnt k q.1 q.2.1 q.2.2) wF ((0 : Int32), len, by_) = some (.inl (nI (L ++ ttl A x.2.1 c 3 0).length, by')) ∨ wh (fun k (q : Int32 × (Int32) × (Nat → Int32)) => S_X10_writeTitle_2 (nI c) nam spd cnt k q.1 q.2.1 q.2.2) wF ((0 : Int32), len, by_) = some (.inr (nI (L ++ ttl A x.2.1 c 3 0).length, by'))) ∧ PG (L ++ ttl A x.2.1 c 3 0) (nI (L ++ ttl A x.2.1 c 3 0).length) by' := by
    refine wh_up 3 (by omega) (fun (j : Nat) (q : Int32 × (Int32) × (Nat → Int32)) => q.1 = nI j ∧ ∃ M, PG M q.2.1 q.2.2 ∧ M ++ ttl A x.2.1 c (3 - j) j = L ++ ttl A x.2.1 c 3 0) (fun (o : Option (((Int32) × (Nat → Int32)) ⊕ ((Int32) × (Nat → Int32)))) => ∃ by', (o = some (.inl (nI (L ++ ttl A x.2.1 c 3 0).length, by')) ∨ o = some (.inr (nI (L ++ ttl A x.2.1 c 3 0).length, by'))) ∧ PG (L ++ ttl A x.2.1 c 3 0) (nI (L ++ ttl A x.2.1 c 3 0).length) by') (fun j q hj hI k hk => ?_) (Nat.zero_le _) ⟨rfl, L, hP, rfl⟩
    obtain ⟨l, ln, P⟩ := q
    obtain ⟨e1, M, e2, e3⟩ := hI
    have e1 : l = nI j := e1
    subst e1
    have e2 : PG M ln P := e2
    show ∃ by', (S_X10_writeTitle_2 (nI c) nam spd cnt k (nI j) ln P = _ ∨ S_X10_writeTitle_2 (nI c) nam spd cnt k (nI j) ln P = _) ∧ _
    unfold S_X10_writeTitle_2
    have e4 := congrArg List.length e3
    rw [List.length_append, List.length_append] at e4
    by_cases hlt : j < 3
    · rw [if_neg (show ¬ (3 : Int32) ≤ nI j from fun h => by have := (nI_leI (a := 3) (by omega) (by omega)).mp h; omega), p_titleWord hV hx hT hc (by omega), ob1_some]
      obtain ⟨d, hd⟩ : ∃ d, 3 - j = d + 1 := ⟨2 - j, by omega⟩
      have hd2 : 3 - (j + 1) = d := by omega
      cases ht : twd A x.2.1 c j with
      | none =>
        rw [if_pos (show pI none = (-1 : Int32) from rfl)]
        rw [ttl_n ht, List.append_nil] at e3
        have e5 : ln = nI M.length := e2.1
        rw [e5, ← e3]
        exact ⟨P, Or.inl rfl, e5 ▸ e2⟩
      | some w =>
        have hw7 := ttw_lt j w ht
        have ho := hV.nm hw7
        rw [if_neg (show ¬ pI (some w) = (-1 : Int32) from fun h => by have h : nI w = -nI 1 := h; rw [mI_eqR (by omega)] at h; exact h)]
        rw [hd, ttl_w ht] at e3 e4
        have fin : ∀ M' ln' P', PG M' ln' P' → M' ++ (ltr 10 (A (475 + w)) ++ ttl A x.2.1 c d (j + 1)) = L ++ ttl A x.2.1 c 3 0 → ∃ by', (F_X10_writeTitle_b36 k (nI c) (nI j) (nI w) nam spd cnt ln' P' = some (.inl (nI (L ++ ttl A x.2.1 c 3 0).length, by')) ∨ F_X10_writeTitle_b36 k (nI c) (nI j) (nI w) nam spd cnt ln' P' = some (.inr (nI (L ++ ttl A x.2.1 c 3 0).length, by'))) ∧ PG (L ++ ttl A x.2.1 c 3 0) (nI (L ++ ttl A x.2.1 c 3 0).length) by' := by
          intro M' ln' P' g1 g2
          have g3 := congrArg List.length g2
          rw [List.length_append, List.length_append, List.length_append] at g3
          obtain ⟨by', f1, f2⟩ := p_putName ho g1 (by omega)
          unfold F_X10_writeTitle_b36
          rw [gi_n (by omega) (by omega), nI_clamp (by omega), hn w hw7, f1, ob2_some, show nI j + (1 : Int32) = nI (j + 1) from nI_add j 1]
          refine hk hlt _ ⟨rfl, M' ++ ltr 10 (A (475 + w)), f2, ?_⟩
          rw [hd2, List.append_assoc]
          exact g2
        by_cases h0 : j = 0
        · subst h0
          rw [if_pos (show nI 0 ≤ (0 : Int32) by decide)]
          rw [if_pos rfl, List.nil_append] at e3
          exact fin M ln P e2 e3
        · rw [if_neg (show ¬ nI j ≤ (0 : Int32) from fun h => by have := (nI_leI (b := 0) (by omega) (by omega)).mp h; omega)]
          rw [if_neg h0] at e3 e4
          rw [List.length_append] at e4
          have e4 : M.length + (1 + (ltr 10 (A (475 + w)) ++ ttl A x.2.1 c d (j + 1)).length) = L.length + (ttl A x.2.1 c 3 0).length := e4
          obtain ⟨by', f1, f2⟩ := p_put e2 (by omega) (c := 45)
          have f1 : F_X3_put (45 : Int32) ln P = some (nI (M.length + 1), by') := f1
          rw [f1, ob2_some]
          exact fin (M ++ [45]) _ by' f2 (by rw [List.append_assoc]; exact e3)
    · have h8 : j = 3 := by omega
      subst h8
      rw [if_pos (show (3 : Int32) ≤ nI 3 by decide)]
      rw [Nat.sub_self] at e3
      have e3 : M ++ [] = _ := e3
      rw [List.append_nil] at e3
      have e5 : ln = nI M.length := e2.1
      rw [e5, ← e3]
      exact ⟨P, Or.inr rfl, e5 ▸ e2⟩
  obtain ⟨by', f1, f2⟩ := key
  refine ⟨by', ?_, f2⟩
  unfold F_X10_writeTitle
  rcases f1 with f1 | f1
  · rw [f1]; rfl
  · rw [f1]; rfl
theorem q_writeTitle (hV : VA A) (hM : MR A a) (hx : tbl A 0 = some x) (hR : RB A W C E) {l1 th tc tl : Int32} {G cos pl cut : Nat → Int32} {Y : Nat → Int64} {c : Nat} (hc : c ≤ x.2.1) {L : List Nat} {len : Int32} {by_ : Nat → Int32} (hP : PG L len by_) (hl : L.length + (ttl A x.2.1 c 3 0).length ≤ 1100) :
    ∃ by', wh (fun k (q : Int32 × (Int32) × (Nat → Int32)) => S_X11_writeChapters_65 l1 (nI c) th tc tl a W C E G Y cos pl cut k q.1 q.2.1 q.2.2) wF ((0 : Int32), len, by_) = some (nI (L ++ ttl A x.2.1 c 3 0).length, by') ∧ PG (L ++ ttl A x.2.1 c 3 0) (nI (L ++ ttl A x.2.1 c 3 0).length) by' := by
  have hw := hV.nw
  refine wh_up 3 (by omega) (fun (j : Nat) (q : Int32 × (Int32) × (Nat → Int32)) => q.1 = nI j ∧ ∃ M, PG M q.2.1 q.2.2 ∧ M ++ ttl A x.2.1 c (3 - j) j = L ++ ttl A x.2.1 c 3 0) (fun (o : Option (((Int32) × (Nat → Int32)))) => ∃ by', o = some (nI (L ++ ttl A x.2.1 c 3 0).length, by') ∧ PG (L ++ ttl A x.2.1 c 3 0) (nI (L ++ ttl A x.2.1 c 3 0).length) by') (fun j q hj hI k hk => ?_) (Nat.zero_le _) ⟨rfl, L, hP, rfl⟩
  obtain ⟨l, ln, P⟩ := q
  obtain ⟨e1, M, e2, e3⟩ := hI
  have e1 : l = nI j := e1
  subst e1
  have e2 : PG M ln P := e2
  show ∃ by', S_X11_writeChapters_65 l1 (nI c) th tc tl a W C E G Y cos pl cut k (nI j) ln P = _ ∧ _
  unfold S_X11_writeChapters_65
  have e4 := congrArg List.length e3
  rw [List.length_append, List.length_append] at e4
  by_cases hlt : j < 3
  · rw [if_neg (show ¬ (3 : Int32) ≤ nI j from fun h => by have := (nI_leI (a := 3) (by omega) (by omega)).mp h; omega), q_titleWord hV hM hx hR hc (by omega), ob1_some]
    obtain ⟨d, hd⟩ : ∃ d, 3 - j = d + 1 := ⟨2 - j, by omega⟩
    have hd2 : 3 - (j + 1) = d := by omega
    cases ht : twd A x.2.1 c j with
    | none =>
      rw [if_pos (show pI none = (-1 : Int32) from rfl), show nI j + (1 : Int32) = nI (j + 1) from nI_add j 1]
      refine hk hlt _ ⟨rfl, M, e2, ?_⟩
      rw [ttl_n (twd_n ht)]
      rw [ttl_n ht] at e3
      exact e3
    | some w =>
      have hw7 := ttw_lt j w ht
      have ho := hV.nm hw7
      have hv40 := (nmOK_8 ho).2
      rw [if_neg (show ¬ pI (some w) = (-1 : Int32) from fun h => by have h : nI w = -nI 1 := h; rw [mI_eqR (by omega)] at h; exact h)]
      rw [hd, ttl_w ht] at e3 e4
      have fin : ∀ M' ln' P', PG M' ln' P' → M' ++ (ltr 10 (A (475 + w)) ++ ttl A x.2.1 c d (j + 1)) = L ++ ttl A x.2.1 c 3 0 → ∃ by', F_X11_writeChapters_b97 k l1 (nI c) (nI j) (nI w) th tc tl ln' a W C E G Y cos pl cut P' = some (nI (L ++ ttl A x.2.1 c 3 0).length, by') ∧ PG (L ++ ttl A x.2.1 c 3 0) (nI (L ++ ttl A x.2.1 c 3 0).length) by' := by
        intro M' ln' P' g1 g2
        have g3 := congrArg List.length g2
        rw [List.length_append, List.length_append, List.length_append] at g3
        obtain ⟨by', f1, f2⟩ := q_saysName 10 (A (475 + w)) (by omega) (by have : 1099511627776 ≤ 32 ^ 10 := by decide
                                                                           omega) (by omega) g1 (by omega)
        unfold F_X11_writeChapters_b97
        rw [show (475 : Int32) + nI w = nI (475 + w) from nI_add 475 w, gi_n (by omega) (by omega), nI_clamp (by omega), hM.at (by omega), f1, ob2_some, show nI j + (1 : Int32) = nI (j + 1) from nI_add j 1]
        refine hk hlt _ ⟨rfl, M' ++ ltr 10 (A (475 + w)), f2, ?_⟩
        rw [hd2, List.append_assoc]
        exact g2
      by_cases h0 : j = 0
      · subst h0
        rw [if_pos (show nI 0 ≤ (0 : Int32) by decide)]
        rw [if_pos rfl, List.nil_append] at e3
        exact fin M ln P e2 e3
      · rw [if_neg (show ¬ nI j ≤ (0 : Int32) from fun h => by have := (nI_leI (b := 0) (by omega) (by omega)).mp h; omega)]
        rw [if_neg h0] at e3 e4
        rw [List.length_append] at e4
        have e4 : M.length + (1 + (ltr 10 (A (475 + w)) ++ ttl A x.2.1 c d (j + 1)).length) = L.length + (ttl A x.2.1 c 3 0).length := e4
        obtain ⟨by', f1, f2⟩ := q_says e2 (by omega) (c := 45)
        have f1 : F_X11_says (45 : Int32) ln P = some (nI (M.length + 1), by') := f1
        rw [f1, ob2_some]
        exact fin (M ++ [45]) _ by' f2 (by rw [List.append_assoc]; exact e3)
  · have h8 : j = 3 := by omega
    subst h8
    rw [if_pos (show (3 : Int32) ≤ nI 3 by decide)]
    rw [Nat.sub_self] at e3
    have e3 : M ++ [] = _ := e3
    rw [List.append_nil] at e3
    have e5 : ln = nI M.length := e2.1
    rw [e5, ← e3]
    exact ⟨P, rfl, e5 ▸ e2⟩
end
