/-! ===== the class's division: the best one kept, its questions ===== -/
theorem rI_32 : rI 32 32 = -nI 1 := rI_n (by omega)
theorem i_add0 (x : Int32) : x + nI 0 = x := Int32.add_zero x
theorem fa_and (a b : Nat) : nI a &&& nI b = nI (a &&& b) := by
  apply Int32.toBitVec_inj.1
  show BitVec.ofNat 32 a &&& BitVec.ofNat 32 b = BitVec.ofNat 32 (a &&& b)
  apply BitVec.eq_of_getLsbD_eq
  intro i hi
  simp [hi]
theorem nI_and1 (n : Nat) : nI n &&& nI 1 = nI (n % 2) := by rw [fa_and, Nat.and_one_is_mod]
theorem sh_s : ∀ k, k < 32 → ((nI k &&& nI 31).toBitVec.smod 32).toNat = k := by decide
theorem sh_u : ∀ k, k < 32 → (((nI k).toUInt32 &&& Int32.toUInt32 (nI 31)).toBitVec % 32).toNat = k := by decide
theorem bt_s {c k : Nat} (hc : c < 2 ^ 31) (hk : k < 32) : (nI c >>> (nI k &&& nI 31) &&& nI 1 = nI 1) = (c / 2 ^ k % 2 = 1) := by
  rw [pk_shrN hc _ k (sh_s k hk), nI_and1]
  exact propext (nI_eq (by omega) (by omega))
theorem bt_u {c k : Nat} (hc : c < 2 ^ 31) (hk : k < 32) : (((nI c).toUInt32 >>> ((nI k).toUInt32 &&& Int32.toUInt32 (nI 31))).toInt32 &&& nI 1 = nI 1) = (c / 2 ^ k % 2 = 1) := by
  have e := pk_ushrN (n := c) (by omega) (nI k) k (sh_u k hk)
  show ((((nI c).toUInt32 >>> ((nI k).toUInt32 &&& Int32.toUInt32 31)).toInt32 &&& nI 1) = nI 1) = _
  rw [e, nI_and1]
  exact propext (nI_eq (by omega) (by omega))
theorem q_has {c k : Nat} (hc : c < 2 ^ 31) (hk : k < 32) : F_X11_has (nI c) (nI k) = some (bI (c / 2 ^ k % 2 = 1)) := by
  by_cases h : c / 2 ^ k % 2 = 1
  · rw [bI_1 h]; simp (disch := omega) only [fa_lit, fa_litL, nI_add, pk_mul, pk_sub, nI_clamp, gi_n, gb_0, gb_1, nI_ltI, nI_leI, nI_eq, lc_lt, lc_gt, lc_ge, lc_le, lc_eq, lN_i, nI_l, lN_add, lN_mul, lN_lt, lN_le, lN_eq, mI_eqR, mI_eqL, mI_ltL, mI_ltR, mI_leL, mI_leR, mI_add, ob1_some, ob2_some, ob3_some, ob4_some, ob5_some, ob6_some, ob7_some, ob8_some, if_true, if_false, if_pos, if_neg, Sum.elim_inl, Sum.elim_inr, un1, un2, un3, un4, un5, Nat.zero_add, Nat.add_zero, Nat.mul_one, Nat.mul_zero, Nat.sub_zero, pk_us, pk_uLs, xoq_l, xoq_r, nI_sle, F_X11_has, bt_s]
  · rw [bI_0 h]; simp (disch := omega) only [fa_lit, fa_litL, nI_add, pk_mul, pk_sub, nI_clamp, gi_n, gb_0, gb_1, nI_ltI, nI_leI, nI_eq, lc_lt, lc_gt, lc_ge, lc_le, lc_eq, lN_i, nI_l, lN_add, lN_mul, lN_lt, lN_le, lN_eq, mI_eqR, mI_eqL, mI_ltL, mI_ltR, mI_leL, mI_leR, mI_add, ob1_some, ob2_some, ob3_some, ob4_some, ob5_some, ob6_some, ob7_some, ob8_some, if_true, if_false, if_pos, if_neg, Sum.elim_inl, Sum.elim_inr, un1, un2, un3, un4, un5, Nat.zero_add, Nat.add_zero, Nat.mul_one, Nat.mul_zero, Nat.sub_zero, pk_us, pk_uLs, xoq_l, xoq_r, nI_sle, F_X11_has, bt_s]
/-- the table of the best divisions of a show -/
def tbl (A : Nat → Nat) : Nat → Option (Int × Nat × Nat) := dTb (A 6) (okc A 32 32) (fun e => (ch A e : Int) - A 3) (A 6)
theorem tbl_0 {A : Nat → Nat} (h : A 6 = 0) : tbl A 0 = none := by
  unfold tbl
  rw [h]; rfl
theorem tbl_pos {A : Nat → Nat} {x : Int × Nat × Nat} (h : tbl A 0 = some x) : 0 < A 6 := by
  rcases Nat.eq_zero_or_pos (A 6) with h1 | h1
  · rw [tbl_0 h1] at h; cases h
  · exact h1
theorem tbl_iff {A : Nat → Nat} : (0 < A 6 ∧ (tbl A 0).isSome = true) ↔ (tbl A 0).isSome = true := by
  refine ⟨fun h => h.2, fun h => ⟨?_, h⟩⟩
  cases hx : tbl A 0 with
  | none => rw [hx] at h; cases h
  | some x => exact tbl_pos hx
theorem tbl_cht {A : Nat → Nat} {x : Int × Nat × Nat} (h : tbl A 0 = some x) : cht (A 6) x.2.1 (tbl A) := (tb_cht (tbl_pos h) h).1
theorem tbl_b {A : Nat → Nat} (hV : VA A) {s : Nat} (hs : s < A 6) : dB (A 6) s (tbl A s) := by
  have h3 := hV.s3
  exact dTb_b (fun e => by have := ch_le A e; omega) (A 6) (Nat.le_refl _) s hs
/-- what the class keeps of the best division -/
def DB (A : Nat → Nat) (cc bw : Int32) (fir cat : Nat → Int32) : Prop :=
  match tbl A 0 with
  | none => cc = nI 0
  | some x => cc = nI (x.2.1 + 1) ∧ bw = iI x.1 ∧ (∀ k, k ≤ x.2.1 → fir k = nI (bg (tbl A) k)) ∧ ∀ t k, k ≤ x.2.1 → bg (tbl A) k ≤ t → t < bg (tbl A) (k + 1) → cat t = nI k
def DV (A : Nat → Nat) (cc bw sc le mo : Int32) (chg fir cat st : Nat → Int32) : Prop :=
  sc = nI (A 6) ∧ le = nI (A 0) ∧ mo = nI (A 1) ∧ (∀ e, e + 1 < A 6 → chg e = nI (ch A e)) ∧ (∀ s, s ≤ A 6 → st s = nI (sp A s)) ∧ DB A cc bw fir cat
def SR (A : Nat → Nat) (set : Nat → Int32) : Prop := ∀ k, k < 6 → set k = nI (A k)
theorem SR.at {A : Nat → Nat} {set : Nat → Int32} (h : SR A set) {k : Nat} (hk : k < 6) : set k = nI (A k) := h k hk
theorem p_takeBest {n K : Nat} {T : Nat → Option (Int × Nat × Nat)} {bw : Int32} {fir cat W L : Nat → Int32} (hn : n ≤ 32) (hc : cht n K T) (hL : ∀ k, k ≤ K → L (bg T k) = nI (en T (bg T k))) :
    ∃ fir' cat', F_X0_takeBest (nI 0) bw (nI n) fir cat W L = some (nI (K + 1), W 0, fir', cat') ∧ (∀ k, k ≤ K → fir' k = nI (bg T k)) ∧ ∀ t k, k ≤ K → bg T k ≤ t → t < bg T (k + 1) → cat' t = nI k := by
  have hK := hc.K
  have key : ∃ fir' cat', wh (fun k q => S_X0_takeBest_14 (W 0) (nI n) L k q.1 q.2.1 q.2.2.1 q.2.2.2.1 q.2.2.2.2) wF (nI 0, nI 0, nI 0, fir, cat) = some (nI (K + 1), fir', cat') ∧ (∀ k, k ≤ K → fir' k = nI (bg T k)) ∧ ∀ t k, k ≤ K → bg T k ≤ t → t < bg T (k + 1) → cat' t = nI k := by
    refine wh_up n (by omega) (fun (j : Nat) (q : Int32 × Int32 × (Int32) × (Nat → Int32) × (Nat → Int32)) => ∃ m F C, q = (nI (bg T m), nI j, nI m, F, C) ∧ m ≤ K + 1 ∧ j ≤ bg T m ∧ (m = 0 → j = 0) ∧ (∀ i, i + 1 = m → bg T i < j) ∧ (∀ k, k < m → F k = nI (bg T k)) ∧ ∀ t k, k < m → bg T k ≤ t → t < bg T (k + 1) → t < j → C t = nI k) (fun (o : Option (((Int32) × (Nat → Int32) × (Nat → Int32)))) => ∃ fir' cat', o = some (nI (K + 1), fir', cat') ∧ (∀ k, k ≤ K → fir' k = nI (bg T k)) ∧ ∀ t k, k ≤ K → bg T k ≤ t → t < bg T (k + 1) → cat' t = nI k) (fun j q hj hI k hk => ?_) (Nat.zero_le _) ⟨0, fir, cat, rfl, Nat.zero_le _, Nat.le_refl _, fun _ => rfl, fun i h => by omega, fun k h => absurd h (Nat.not_lt_zero k), fun t k h => absurd h (Nat.not_lt_zero k)⟩
    obtain ⟨m, F, C, rfl, h1, h2, h3, h4, h5, h6⟩ := hI
    have hbm : bg T m ≤ n := by
      have := hc.le (i := m) (j := K + 1) h1 (Nat.le_refl _)
      rw [hc.2] at this; exact this
    by_cases hlt : j < n
    · by_cases h7 : j = bg T m
      · have hmK : m ≤ K := by
          rcases Nat.lt_or_ge m (K + 1) with h | h
          · omega
          · have h8 : m = K + 1 := by omega
            subst h8
            rw [hc.2] at h7; omega
        have h8 := hc.up hmK
        have h9 := hk hlt (nI (bg T (m + 1)), nI (j + 1), nI (m + 1), upd F m (nI j), upd C j (nI m)) ⟨m + 1, upd F m (nI j), upd C j (nI m), rfl, by omega, by omega, fun h => by omega, fun i hi => ?_, fun i hi => ?_, fun t i hi b1 b2 b3 => ?_⟩
        · have e1 := hL m hmK
          rw [← h7] at e1
          rw [bg_s, ← h7] at h9
          have e2 : nI (m + 1) - nI 1 = nI m := by rw [pk_sub (by omega)]; rfl
          rw [← h7]
          simp (disch := omega) only [fa_lit, fa_litL, nI_add, pk_mul, pk_sub, nI_clamp, gi_n, gb_0, gb_1, nI_ltI, nI_leI, nI_eq, lc_lt, lc_gt, lc_ge, lc_le, lc_eq, lN_i, nI_l, lN_add, lN_mul, lN_lt, lN_le, lN_eq, mI_eqR, mI_eqL, mI_ltL, mI_ltR, mI_leL, mI_leR, mI_add, ob1_some, ob2_some, ob3_some, ob4_some, ob5_some, ob6_some, ob7_some, ob8_some, if_true, if_false, if_pos, if_neg, Sum.elim_inl, Sum.elim_inr, un1, un2, un3, un4, un5, Nat.zero_add, Nat.add_zero, Nat.mul_one, Nat.mul_zero, Nat.sub_zero, pk_us, pk_uLs, xoq_l, xoq_r, nI_sle, S_X0_takeBest_14, F_X0_takeBest_b56, e1, e2]
          exact h9
        · have e1 : i = m := by omega
          subst e1; omega
        · by_cases e1 : i = m
          · subst e1; rw [pk_us, h7]
          · rw [pk_un e1]; exact h5 i (by omega)
        · by_cases e1 : t = j
          · subst e1
            rw [pk_us]
            exact congrArg nI (hc.one (t := t) hmK (by omega) (by omega) (by omega) b1 b2)
          · rw [pk_un e1]
            by_cases e2 : i = m
            · subst e2; omega
            · exact h6 t i (by omega) b1 b2 (by omega)
      · have hm0 : 0 < m := by
          rcases Nat.eq_zero_or_pos m with h | h
          · have e1 := h3 h
            subst h; exact absurd e1 h7
          · exact h
        have e4 := h4 (m - 1) (by omega)
        have e5 : m - 1 + 1 = m := by omega
        have h9 := hk hlt (nI (bg T m), nI (j + 1), nI m, F, upd C j (nI (m - 1))) ⟨m, F, upd C j (nI (m - 1)), rfl, h1, by omega, fun h => by omega, fun i hi => ?_, h5, fun t i hi b1 b2 b3 => ?_⟩
        · simp (disch := omega) only [fa_lit, fa_litL, nI_add, pk_mul, pk_sub, nI_clamp, gi_n, gb_0, gb_1, nI_ltI, nI_leI, nI_eq, lc_lt, lc_gt, lc_ge, lc_le, lc_eq, lN_i, nI_l, lN_add, lN_mul, lN_lt, lN_le, lN_eq, mI_eqR, mI_eqL, mI_ltL, mI_ltR, mI_leL, mI_leR, mI_add, ob1_some, ob2_some, ob3_some, ob4_some, ob5_some, ob6_some, ob7_some, ob8_some, if_true, if_false, if_pos, if_neg, Sum.elim_inl, Sum.elim_inr, un1, un2, un3, un4, un5, Nat.zero_add, Nat.add_zero, Nat.mul_one, Nat.mul_zero, Nat.sub_zero, pk_us, pk_uLs, xoq_l, xoq_r, nI_sle, S_X0_takeBest_14, F_X0_takeBest_b56]
          exact h9
        · have := h4 i hi; omega
        · by_cases e1 : t = j
          · subst e1
            rw [pk_us]
            exact congrArg nI (hc.one (t := t) (k := m - 1) (by omega) (by omega) (by omega) (by rw [e5]; omega) b1 b2)
          · rw [pk_un e1]; exact h6 t i hi b1 b2 (by omega)
    · have h8 : m = K + 1 := by
        rcases Nat.lt_or_ge m (K + 1) with h | h
        · have := hc.lt (i := m) (j := K + 1) h (Nat.le_refl _)
          rw [hc.2] at this; omega
        · omega
      subst h8
      have h9 : j = n := by omega
      subst h9
      refine ⟨F, C, ?_, fun k hk => h5 k (by omega), fun t k hk b1 b2 => h6 t k (by omega) b1 b2 ?_⟩
      · simp (disch := omega) only [fa_lit, fa_litL, nI_add, pk_mul, pk_sub, nI_clamp, gi_n, gb_0, gb_1, nI_ltI, nI_leI, nI_eq, lc_lt, lc_gt, lc_ge, lc_le, lc_eq, lN_i, nI_l, lN_add, lN_mul, lN_lt, lN_le, lN_eq, mI_eqR, mI_eqL, mI_ltL, mI_ltR, mI_leL, mI_leR, mI_add, ob1_some, ob2_some, ob3_some, ob4_some, ob5_some, ob6_some, ob7_some, ob8_some, if_true, if_false, if_pos, if_neg, Sum.elim_inl, Sum.elim_inr, un1, un2, un3, un4, un5, Nat.zero_add, Nat.add_zero, Nat.mul_one, Nat.mul_zero, Nat.sub_zero, pk_us, pk_uLs, xoq_l, xoq_r, nI_sle, S_X0_takeBest_14]
      · have := hc.le (i := k + 1) (j := K + 1) (by omega) (Nat.le_refl _)
        rw [hc.2] at this; omega
  obtain ⟨fir', cat', g1, g2⟩ := key
  refine ⟨fir', cat', ?_, g2⟩
  unfold F_X0_takeBest
  simp only [fa_lit]
  rw [gi_n (by omega) (by omega), nI_clamp (by omega), ob3_s g1]
section
variable {A : Nat → Nat} {sc wc : Int32} {ord dur pau siz wor st chg set : Nat → Int32} {nam : Nat → Int64} {a : Nat → Int64}
theorem p_update (hV : VA A) (h : TR A sc wc ord dur pau siz wor nam) (hR : SR A set) {cc bw n0' le mo : Int32} {chg fir cat W C L st lef rig : Nat → Int32} :
    ∃ cc' bw' chg' fir' cat' W' C' L' st' lef' rig', F_X0_update cc bw n0' le mo chg fir cat W C L st lef rig sc ord dur siz wor set = some (cc', bw', nI (A 6), nI (A 0), nI (A 1), chg', fir', cat', W', C', L', st', lef', rig') ∧ DV A cc' bw' (nI (A 6)) (nI (A 0)) (nI (A 1)) chg' fir' cat' st' := by
  have hn := hV.n
  have h3 := hV.s3
  have hsc := h.1
  have h0 : nI (A 0) = set 0 := (hR 0 (by omega)).symm
  obtain ⟨st', f1, f2⟩ : ∃ st', wh (fun k q => S_X0_update_40 cc bw sc (set 0) (set 1) chg fir cat W C L lef rig ord dur siz wor set k q.1 q.2) wF (nI 0, upd st 0 (nI 0)) = some st' ∧ ∀ s, s ≤ A 6 → st' s = nI (sp A s) := by
    refine wh_up (A 6) (by omega) (fun (j : Nat) (q : Int32 × (Nat → Int32)) => q.1 = nI j ∧ ∀ s, s ≤ j → q.2 s = nI (sp A s)) (fun (o : Option (((Nat → Int32)))) => ∃ st', o = some st' ∧ ∀ s, s ≤ A 6 → st' s = nI (sp A s)) (fun j q hj hI k hk => ?_) (Nat.zero_le _) ⟨rfl, fun s hs => by
      have e : s = 0 := by omega
      subst e
      show upd st 0 (nI 0) 0 = nI 0
      exact pk_us⟩
    obtain ⟨l, P⟩ := q
    obtain ⟨e1, e2⟩ := hI
    have e1 : l = nI j := e1
    subst e1
    have e2 : ∀ s, s ≤ j → P s = nI (sp A s) := e2
    by_cases hlt : j < A 6
    · have h9 := hk hlt (nI (j + 1), upd P (j + 1) (nI (sp A (j + 1)))) ⟨rfl, fun s hs => ?_⟩
      · have e3 := e2 j (Nat.le_refl _)
        rw [sp_s] at h9
        simp (disch := omega) only [fa_lit, fa_litL, nI_add, pk_mul, pk_sub, nI_clamp, gi_n, gb_0, gb_1, nI_ltI, nI_leI, nI_eq, lc_lt, lc_gt, lc_ge, lc_le, lc_eq, lN_i, nI_l, lN_add, lN_mul, lN_lt, lN_le, lN_eq, mI_eqR, mI_eqL, mI_ltL, mI_ltR, mI_leL, mI_leR, mI_add, ob1_some, ob2_some, ob3_some, ob4_some, ob5_some, ob6_some, ob7_some, ob8_some, if_true, if_false, if_pos, if_neg, Sum.elim_inl, Sum.elim_inr, un1, un2, un3, un4, un5, Nat.zero_add, Nat.add_zero, Nat.mul_one, Nat.mul_zero, Nat.sub_zero, pk_us, pk_uLs, xoq_l, xoq_r, nI_sle, S_X0_update_40, hsc, p_durationOf hV h, e3]
        exact h9
      · show upd P (j + 1) (nI (sp A (j + 1))) s = nI (sp A s)
        by_cases e : s = j + 1
        · rw [e, pk_us]
        · rw [pk_un e]; exact e2 s (by omega)
    · have h8 : j = A 6 := by omega
      subst h8
      refine ⟨P, ?_, e2⟩
      simp (disch := omega) only [fa_lit, fa_litL, nI_add, pk_mul, pk_sub, nI_clamp, gi_n, gb_0, gb_1, nI_ltI, nI_leI, nI_eq, lc_lt, lc_gt, lc_ge, lc_le, lc_eq, lN_i, nI_l, lN_add, lN_mul, lN_lt, lN_le, lN_eq, mI_eqR, mI_eqL, mI_ltL, mI_ltR, mI_leL, mI_leR, mI_add, ob1_some, ob2_some, ob3_some, ob4_some, ob5_some, ob6_some, ob7_some, ob8_some, if_true, if_false, if_pos, if_neg, Sum.elim_inl, Sum.elim_inr, un1, un2, un3, un4, un5, Nat.zero_add, Nat.add_zero, Nat.mul_one, Nat.mul_zero, Nat.sub_zero, pk_us, pk_uLs, xoq_l, xoq_r, nI_sle, S_X0_update_40, hsc]
  obtain ⟨chg', lef', rig', f3, f4⟩ : ∃ chg' lef' rig', wh (fun k q => S_X0_update_79 cc bw sc (set 0) (set 1) fir cat W C L st' ord siz wor set k q.1 q.2.1 q.2.2.1 q.2.2.2) wF (nI 0, chg, lef, rig) = some (chg', lef', rig') ∧ ∀ e, e + 1 < A 6 → chg' e = nI (ch A e) := by
    refine wh_up (A 6 - 1) (by omega) (fun (j : Nat) (q : Int32 × (Nat → Int32) × (Nat → Int32) × (Nat → Int32)) => q.1 = nI j ∧ ∀ e, e < j → q.2.1 e = nI (ch A e)) (fun (o : Option (((Nat → Int32) × (Nat → Int32) × (Nat → Int32)))) => ∃ chg' lef' rig', o = some (chg', lef', rig') ∧ ∀ e, e + 1 < A 6 → chg' e = nI (ch A e)) (fun j q hj hI k hk => ?_) (Nat.zero_le _) ⟨rfl, fun e h => absurd h (Nat.not_lt_zero e)⟩
    obtain ⟨l, P, P1, P2⟩ := q
    obtain ⟨e1, e2⟩ := hI
    have e1 : l = nI j := e1
    subst e1
    have e2 : ∀ e, e < j → P e = nI (ch A e) := e2
    by_cases hlt : j < A 6 - 1
    · obtain ⟨le', ri', w1⟩ := p_windowLikeness (b := j) (le := P1) (ri := P2) hV h (by omega)
      have h9 := hk hlt (nI (j + 1), upd P j (nI (ch A j)), le', ri') ⟨rfl, fun e he => ?_⟩
      · have h8 : lk A (j + 1 - A 2) (j + 1 - (j + 1 - A 2)) (j + 1) ((if j + A 2 < A 6 - 1 then j + A 2 else A 6 - 1) - j) ≤ 100 := lkv_le _ _ _
        have e3 : nI 100 - nI (lk A (j + 1 - A 2) (j + 1 - (j + 1 - A 2)) (j + 1) ((if j + A 2 < A 6 - 1 then j + A 2 else A 6 - 1) - j)) = nI (ch A j) := by
          unfold ch
          rw [pk_sub h8]
        simp (disch := omega) only [fa_lit, fa_litL, nI_add, pk_mul, pk_sub, nI_clamp, gi_n, gb_0, gb_1, nI_ltI, nI_leI, nI_eq, lc_lt, lc_gt, lc_ge, lc_le, lc_eq, lN_i, nI_l, lN_add, lN_mul, lN_lt, lN_le, lN_eq, mI_eqR, mI_eqL, mI_ltL, mI_ltR, mI_leL, mI_leR, mI_add, ob1_some, ob2_some, ob3_some, ob4_some, ob5_some, ob6_some, ob7_some, ob8_some, if_true, if_false, if_pos, if_neg, Sum.elim_inl, Sum.elim_inr, un1, un2, un3, un4, un5, Nat.zero_add, Nat.add_zero, Nat.mul_one, Nat.mul_zero, Nat.sub_zero, pk_us, pk_uLs, xoq_l, xoq_r, nI_sle, S_X0_update_79, hsc, nI_sle, hR.at]
        rw [ob3_s w1]
        simp (disch := omega) only [fa_lit, fa_litL, nI_add, pk_mul, pk_sub, nI_clamp, gi_n, gb_0, gb_1, nI_ltI, nI_leI, nI_eq, lc_lt, lc_gt, lc_ge, lc_le, lc_eq, lN_i, nI_l, lN_add, lN_mul, lN_lt, lN_le, lN_eq, mI_eqR, mI_eqL, mI_ltL, mI_ltR, mI_leL, mI_leR, mI_add, ob1_some, ob2_some, ob3_some, ob4_some, ob5_some, ob6_some, ob7_some, ob8_some, if_true, if_false, if_pos, if_neg, Sum.elim_inl, Sum.elim_inr, un1, un2, un3, un4, un5, Nat.zero_add, Nat.add_zero, Nat.mul_one, Nat.mul_zero, Nat.sub_zero, pk_us, pk_uLs, xoq_l, xoq_r, nI_sle, e3]
        exact h9
      · show upd P j (nI (ch A j)) e = nI (ch A e)
        by_cases he2 : e = j
        · rw [he2, pk_us]
        · rw [pk_un he2]; exact e2 e (by omega)
    · refine ⟨P, P1, P2, ?_, fun e he => e2 e (by omega)⟩
      simp (disch := omega) only [fa_lit, fa_litL, nI_add, pk_mul, pk_sub, nI_clamp, gi_n, gb_0, gb_1, nI_ltI, nI_leI, nI_eq, lc_lt, lc_gt, lc_ge, lc_le, lc_eq, lN_i, nI_l, lN_add, lN_mul, lN_lt, lN_le, lN_eq, mI_eqR, mI_eqL, mI_ltL, mI_ltR, mI_leL, mI_leR, mI_add, ob1_some, ob2_some, ob3_some, ob4_some, ob5_some, ob6_some, ob7_some, ob8_some, if_true, if_false, if_pos, if_neg, Sum.elim_inl, Sum.elim_inr, un1, un2, un3, un4, un5, Nat.zero_add, Nat.add_zero, Nat.mul_one, Nat.mul_zero, Nat.sub_zero, pk_us, pk_uLs, xoq_l, xoq_r, nI_sle, S_X0_update_79, hsc, nI_sle]
  obtain ⟨W', C', L', f5, f6⟩ := p_solve (w := 32) (b := 32) (p := A 3) (c := ch A) (chg := chg') (W := W) (C := C) (L := L) hV f2 h3 (ch_le A) f4
  have f6 : ∀ t, t < A 6 → rowC (tbl A t) (W' t) (C' t) (L' t) := f6
  have f5 : F_X0_solve (nI (A 3)) (-nI 1) (-nI 1) (nI (A 6)) (nI (A 0)) (nI (A 1)) chg' W C L st' = some (bI ((tbl A 0).isSome = true), W', C', L') := by
    rw [← rI_32, f5]
    exact congrArg some (congrArg (fun x => (x, W', C', L')) (bI_c tbl_iff))
  rw [hsc] at f1 f3
  have e0 := hR 0 (by omega)
  have e1 := hR 1 (by omega)
  have e3 := hR 3 (by omega)
  rw [e0, e1] at f1 f3
  cases hT : tbl A 0 with
  | none =>
    rw [hT, bI_0 (by decide)] at f5
    refine ⟨nI 0, bw, chg', fir, cat, W', C', L', st', lef', rig', ?_, rfl, rfl, rfl, f4, f2, ?_⟩
    · unfold F_X0_update
      simp (disch := omega) only [fa_lit, fa_litL, nI_add, pk_mul, pk_sub, nI_clamp, gi_n, gb_0, gb_1, nI_ltI, nI_leI, nI_eq, lc_lt, lc_gt, lc_ge, lc_le, lc_eq, lN_i, nI_l, lN_add, lN_mul, lN_lt, lN_le, lN_eq, mI_eqR, mI_eqL, mI_ltL, mI_ltR, mI_leL, mI_leR, mI_add, ob1_some, ob2_some, ob3_some, ob4_some, ob5_some, ob6_some, ob7_some, ob8_some, if_true, if_false, if_pos, if_neg, Sum.elim_inl, Sum.elim_inr, un1, un2, un3, un4, un5, Nat.zero_add, Nat.add_zero, Nat.mul_one, Nat.mul_zero, Nat.sub_zero, pk_us, pk_uLs, xoq_l, xoq_r, nI_sle, e0, e1, e3, hsc]
      rw [ob1_s f1, ob3_s f3, ob4_s f5, if_pos rfl]
    · unfold DB
      rw [hT]
  | some x =>
    rw [hT, bI_1 (show (some x).isSome = true from rfl)] at f5
    have hc := tbl_cht hT
    obtain ⟨fir', cat', g1, g2, g3⟩ := p_takeBest (n := A 6) (K := x.2.1) (T := tbl A) (bw := bw) (fir := fir) (cat := cat) (W := W') (L := L') hn hc (fun k hk => by
      have h8 := hc.1 k hk
      have h9 := f6 (bg (tbl A) k) h8.1
      cases hy : tbl A (bg (tbl A) k) with
      | none => rw [hy] at h8; exact absurd h8.2.1 (by decide)
      | some y =>
        rw [hy] at h9
        rw [en_s hy]
        exact h9.2.2)
    refine ⟨nI (x.2.1 + 1), W' 0, chg', fir', cat', W', C', L', st', lef', rig', ?_, rfl, rfl, rfl, f4, f2, ?_⟩
    · unfold F_X0_update
      simp (disch := omega) only [fa_lit, fa_litL, nI_add, pk_mul, pk_sub, nI_clamp, gi_n, gb_0, gb_1, nI_ltI, nI_leI, nI_eq, lc_lt, lc_gt, lc_ge, lc_le, lc_eq, lN_i, nI_l, lN_add, lN_mul, lN_lt, lN_le, lN_eq, mI_eqR, mI_eqL, mI_ltL, mI_ltR, mI_leL, mI_leR, mI_add, ob1_some, ob2_some, ob3_some, ob4_some, ob5_some, ob6_some, ob7_some, ob8_some, if_true, if_false, if_pos, if_neg, Sum.elim_inl, Sum.elim_inr, un1, un2, un3, un4, un5, Nat.zero_add, Nat.add_zero, Nat.mul_one, Nat.mul_zero, Nat.sub_zero, pk_us, pk_uLs, xoq_l, xoq_r, nI_sle, e0, e1, e3, hsc]
      rw [ob1_s f1, ob3_s f3, ob4_s f5, if_neg (by decide), ob4_s g1]
    · unfold DB
      rw [hT]
      have h9 := f6 0 (tbl_pos hT)
      rw [hT] at h9
      exact ⟨rfl, h9.1, g2, g3⟩
end
