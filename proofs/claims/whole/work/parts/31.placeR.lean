/-! ===== placements, by the reference; real times and choices by both ===== -/
/-- the lengths of the slots before segment s among the first n -/
def rtm (A : Nat → Nat) (s : Nat) : Nat → Nat
  | 0 => 0
  | i + 1 => match plc A i with
    | none => rtm A s i
    | some x => if x.1 < s then rtm A s i + A (394 + 3 * i + 1) else rtm A s i
theorem rtm_s {A : Nat → Nat} {s i : Nat} {x : Nat × Nat} (h : plc A i = some x) : rtm A s (i + 1) = if x.1 < s then rtm A s i + A (394 + 3 * i + 1) else rtm A s i := by
  show (match plc A i with | none => rtm A s i | some x => if x.1 < s then rtm A s i + A (394 + 3 * i + 1) else rtm A s i) = _
  rw [h]
/-- the real time at which a segment begins -/
def rtt (A : Nat → Nat) (s : Nat) : Nat := if (pco A).isSome = true then sp A s + rtm A s (A 8) else sp A s
def chs (A : Nat → Nat) (i : Nat) : Nat → Nat
  | 0 => 0
  | b + 1 => if may A i b then chs A i b + 1 else chs A i b
theorem chs_s (A : Nat → Nat) (i b : Nat) : chs A i (b + 1) = if may A i b then chs A i b + 1 else chs A i b := rfl
section
variable {A : Nat → Nat} {a : Nat → Int64} {sc wc ns : Int32} {ord dur pau siz wor st wi le re set tim cut : Nat → Int32} {nam : Nat → Int64}
theorem p_countChoices (hV : VA A) (h : TR A sc wc ord dur pau siz wor nam) (hR : SR A set) (hQ : QR A ns wi le re) (hT : ∀ b, b + 1 < A 6 → tim b = nI (sp A (b + 1))) {i : Nat} (hi : i < A 8) : F_X4_countChoices (nI i) (nI (A 6 - 1)) tim ord pau wi re set = some (nI (chs A i (A 6 - 1))) := by
  have hn := hV.n
  unfold F_X4_countChoices
  refine ob1_t (whf (fun j => (nI (chs A i j), nI j)) 0 (A 6 - 1) rfl (by omega) (by omega) (fun j _ hj k => ?_) (fun k => ?_)) rfl
  · have h1 := p_isChoice hV h hR hQ hT hi (b := j) (by omega)
    by_cases h2 : may A i j
    · rw [bI_1 h2] at h1
      rw [chs_s, if_pos h2]
      simp (disch := omega) only [fa_lit, fa_litL, nI_add, pk_mul, pk_sub, nI_clamp, gi_n, gb_0, gb_1, nI_ltI, nI_leI, nI_eq, lc_lt, lc_gt, lc_ge, lc_le, lc_eq, lN_i, nI_l, lN_add, lN_mul, lN_lt, lN_le, lN_eq, mI_eqR, mI_eqL, mI_ltL, mI_ltR, mI_leL, mI_leR, mI_add, ob1_some, ob2_some, ob3_some, ob4_some, ob5_some, ob6_some, ob7_some, ob8_some, if_true, if_false, if_pos, if_neg, Sum.elim_inl, Sum.elim_inr, un1, un2, un3, un4, un5, Nat.zero_add, Nat.add_zero, Nat.mul_one, Nat.mul_zero, Nat.sub_zero, pk_us, pk_uLs, xoq_l, xoq_r, nI_sle, S_X4_countChoices_5, h1]
    · rw [bI_0 h2] at h1
      rw [chs_s, if_neg h2]
      simp (disch := omega) only [fa_lit, fa_litL, nI_add, pk_mul, pk_sub, nI_clamp, gi_n, gb_0, gb_1, nI_ltI, nI_leI, nI_eq, lc_lt, lc_gt, lc_ge, lc_le, lc_eq, lN_i, nI_l, lN_add, lN_mul, lN_lt, lN_le, lN_eq, mI_eqR, mI_eqL, mI_ltL, mI_ltR, mI_leL, mI_leR, mI_add, ob1_some, ob2_some, ob3_some, ob4_some, ob5_some, ob6_some, ob7_some, ob8_some, if_true, if_false, if_pos, if_neg, Sum.elim_inl, Sum.elim_inr, un1, un2, un3, un4, un5, Nat.zero_add, Nat.add_zero, Nat.mul_one, Nat.mul_zero, Nat.sub_zero, pk_us, pk_uLs, xoq_l, xoq_r, nI_sle, S_X4_countChoices_5, h1]
  · simp (disch := omega) only [fa_lit, fa_litL, nI_add, pk_mul, pk_sub, nI_clamp, gi_n, gb_0, gb_1, nI_ltI, nI_leI, nI_eq, lc_lt, lc_gt, lc_ge, lc_le, lc_eq, lN_i, nI_l, lN_add, lN_mul, lN_lt, lN_le, lN_eq, mI_eqR, mI_eqL, mI_ltL, mI_ltR, mI_leL, mI_leR, mI_add, ob1_some, ob2_some, ob3_some, ob4_some, ob5_some, ob6_some, ob7_some, ob8_some, if_true, if_false, if_pos, if_neg, Sum.elim_inl, Sum.elim_inr, un1, un2, un3, un4, un5, Nat.zero_add, Nat.add_zero, Nat.mul_one, Nat.mul_zero, Nat.sub_zero, pk_us, pk_uLs, xoq_l, xoq_r, nI_sle, S_X4_countChoices_5]
theorem p_realTime (hV : VA A) (h : TR A sc wc ord dur pau siz wor nam) (hQ : QR A ns wi le re) {bc : Int32} {pl : Nat → Int32} (hP : PV A bc pl) {s : Nat} (hs : s ≤ A 6) : F_X4_realTime (nI s) bc pl ord dur ns le = some (nI (rtt A s)) := by
  have hn := hV.n
  have hl := hV.nl
  have hns := hQ.1
  subst hns
  have hbc := hP.1
  subst hbc
  unfold F_X4_realTime rtt
  rw [p_startOf hV h hs, ob1_some]
  cases hp : pco A with
  | none =>
    rw [if_pos (show oI none = (-1 : Int32) from rfl), if_neg (show ¬ (none : Option Nat).isSome = true by decide)]
  | some c =>
    have hx := fun i hi => pco_some hp i hi
    have hpl := hP.2 (by rw [hp]; rfl)
    have hc : ¬ oI (some c) = (-1 : Int32) := fun h => by
      have h1 : c ≤ 210000 := by
        unfold pco at hp
        cases hy : pst A (A 8) with
        | none => rw [hy] at hp; cases hp
        | some y =>
          rw [hy] at hp
          dsimp only at hp
          by_cases h0 : A 8 = 0
          · rw [if_pos h0] at hp; cases hp; omega
          · rw [if_neg h0] at hp
            cases hz : plc A 0 with
            | none => rw [hz] at hp; cases hp
            | some x =>
              rw [hz] at hp
              cases hp
              unfold plc at hz
              have h2 : cp A (rw_ A 0) 0 0 = some x := hz
              exact (cp_b hV (by omega) h2).2.2.1
      have h2 : nI c = -nI 1 := h
      rw [mI_eqR (by omega)] at h2
      exact h2
    rw [if_neg hc, if_pos (show (some c).isSome = true from rfl)]
    refine ob1_t (whf (fun j => (nI (sp A s + rtm A s j), nI j)) 0 (A 8) rfl (by omega) (by omega) (fun j _ hj k => ?_) (fun k => ?_)) rfl
    · obtain ⟨x, hx⟩ := hx j hj
      have h1 := hpl j x hj hx
      have h2 := (hQ.2 j hj).2.1
      have h3 := hV.slot hj
      have h4 : x.1 < 32 := by
        unfold plc at hx
        cases hy : pst A j with
        | none => rw [hy] at hx; cases hx
        | some y =>
          rw [hy] at hx
          have := (cp_b hV hj hx).2.1
          omega
      rw [rtm_s hx]
      by_cases h5 : x.1 < s
      · rw [if_pos h5]
        simp (disch := omega) only [fa_lit, fa_litL, nI_add, pk_mul, pk_sub, nI_clamp, gi_n, gb_0, gb_1, nI_ltI, nI_leI, nI_eq, lc_lt, lc_gt, lc_ge, lc_le, lc_eq, lN_i, nI_l, lN_add, lN_mul, lN_lt, lN_le, lN_eq, mI_eqR, mI_eqL, mI_ltL, mI_ltR, mI_leL, mI_leR, mI_add, ob1_some, ob2_some, ob3_some, ob4_some, ob5_some, ob6_some, ob7_some, ob8_some, if_true, if_false, if_pos, if_neg, Sum.elim_inl, Sum.elim_inr, un1, un2, un3, un4, un5, Nat.zero_add, Nat.add_zero, Nat.mul_one, Nat.mul_zero, Nat.sub_zero, pk_us, pk_uLs, xoq_l, xoq_r, nI_sle, S_X4_realTime_22, h1, h2, Nat.add_assoc]
      · rw [if_neg h5]
        simp (disch := omega) only [fa_lit, fa_litL, nI_add, pk_mul, pk_sub, nI_clamp, gi_n, gb_0, gb_1, nI_ltI, nI_leI, nI_eq, lc_lt, lc_gt, lc_ge, lc_le, lc_eq, lN_i, nI_l, lN_add, lN_mul, lN_lt, lN_le, lN_eq, mI_eqR, mI_eqL, mI_ltL, mI_ltR, mI_leL, mI_leR, mI_add, ob1_some, ob2_some, ob3_some, ob4_some, ob5_some, ob6_some, ob7_some, ob8_some, if_true, if_false, if_pos, if_neg, Sum.elim_inl, Sum.elim_inr, un1, un2, un3, un4, un5, Nat.zero_add, Nat.add_zero, Nat.mul_one, Nat.mul_zero, Nat.sub_zero, pk_us, pk_uLs, xoq_l, xoq_r, nI_sle, S_X4_realTime_22, h1, h2]
    · simp (disch := omega) only [fa_lit, fa_litL, nI_add, pk_mul, pk_sub, nI_clamp, gi_n, gb_0, gb_1, nI_ltI, nI_leI, nI_eq, lc_lt, lc_gt, lc_ge, lc_le, lc_eq, lN_i, nI_l, lN_add, lN_mul, lN_lt, lN_le, lN_eq, mI_eqR, mI_eqL, mI_ltL, mI_ltR, mI_leL, mI_leR, mI_add, ob1_some, ob2_some, ob3_some, ob4_some, ob5_some, ob6_some, ob7_some, ob8_some, if_true, if_false, if_pos, if_neg, Sum.elim_inl, Sum.elim_inr, un1, un2, un3, un4, un5, Nat.zero_add, Nat.add_zero, Nat.mul_one, Nat.mul_zero, Nat.sub_zero, pk_us, pk_uLs, xoq_l, xoq_r, nI_sle, S_X4_realTime_22]
/-! the reference -/
theorem q_ofSlot (hV : VA A) (hM : MR A a) {i w : Nat} (hi : i < A 8) (hw : w < 3) : F_X11_ofSlot (nI i) (nI w) a = some (nI (A (394 + 3 * i + w))) := by
  have hl := hV.nl
  simp (disch := omega) only [fa_lit, fa_litL, nI_add, pk_mul, pk_sub, nI_clamp, gi_n, gb_0, gb_1, nI_ltI, nI_leI, nI_eq, lc_lt, lc_gt, lc_ge, lc_le, lc_eq, lN_i, nI_l, lN_add, lN_mul, lN_lt, lN_le, lN_eq, mI_eqR, mI_eqL, mI_ltL, mI_ltR, mI_leL, mI_leR, mI_add, ob1_some, ob2_some, ob3_some, ob4_some, ob5_some, ob6_some, ob7_some, ob8_some, if_true, if_false, if_pos, if_neg, Sum.elim_inl, Sum.elim_inr, un1, un2, un3, un4, un5, Nat.zero_add, Nat.add_zero, Nat.mul_one, Nat.mul_zero, Nat.sub_zero, pk_us, pk_uLs, xoq_l, xoq_r, nI_sle, F_X11_ofSlot, hM.at]
theorem q_away (hV : VA A) (hM : MR A a) {i b : Nat} (hi : i < A 8) (hb : b + 1 < A 6) : F_X11_away (nI i) (nI b) a = some (nI (dst A i b)) := by
  have hn := hV.n
  have hl := hV.nl
  have h3 := hV.slot hi
  have h4 := sp_b hV (s := b + 1) (by omega)
  have h5 := q_ofSlot hV hM hi (w := 0) (by omega)
  rw [Nat.add_zero] at h5
  simp (disch := omega) only [fa_lit, fa_litL, nI_add, pk_mul, pk_sub, nI_clamp, gi_n, gb_0, gb_1, nI_ltI, nI_leI, nI_eq, lc_lt, lc_gt, lc_ge, lc_le, lc_eq, lN_i, nI_l, lN_add, lN_mul, lN_lt, lN_le, lN_eq, mI_eqR, mI_eqL, mI_ltL, mI_ltR, mI_leL, mI_leR, mI_add, ob1_some, ob2_some, ob3_some, ob4_some, ob5_some, ob6_some, ob7_some, ob8_some, if_true, if_false, if_pos, if_neg, Sum.elim_inl, Sum.elim_inr, un1, un2, un3, un4, un5, Nat.zero_add, Nat.add_zero, Nat.mul_one, Nat.mul_zero, Nat.sub_zero, pk_us, pk_uLs, xoq_l, xoq_r, nI_sle, F_X11_away, q_spoken hV hM, h5]
  unfold dst
  by_cases h : A (394 + 3 * i) ≤ sp A (b + 1)
  · rw [if_pos h, pk_sub h, if_pos (nI_le (Nat.zero_le _) (by omega))]
  · have h6 : ¬ nI 0 ≤ nI (sp A (b + 1)) - nI (A (394 + 3 * i)) := by
      rw [nI_iSub, iI_n 0, iI_le (by omega) (by omega) (by omega) (by omega)]; omega
    rw [if_neg h, if_neg h6, nI_iSub, iI_neg, iI_n]
    refine congrArg some (congrArg iI ?_)
    omega
theorem q_mayHave (hV : VA A) (hM : MR A a) {i b : Nat} (hi : i < A 8) (hb : b + 1 < A 6) : F_X11_mayHave (nI i) (nI b) a = some (bI (may A i b)) := by
  have hn := hV.n
  have hl := hV.nl
  have h1 := q_isLong hV hM (s := b) (by omega)
  have h3 := hV.slot hi
  have h4 := dst_b hV hi (b := b) (by omega)
  by_cases h7 : A 4 ≤ oA A b 1
  · rw [bI_1 h7] at h1
    by_cases h8 : dst A i b ≤ A (394 + 3 * i + 2)
    · rw [bI_1 (show may A i b from ⟨h7, h8⟩)]
      simp (disch := omega) only [fa_lit, fa_litL, nI_add, pk_mul, pk_sub, nI_clamp, gi_n, gb_0, gb_1, nI_ltI, nI_leI, nI_eq, lc_lt, lc_gt, lc_ge, lc_le, lc_eq, lN_i, nI_l, lN_add, lN_mul, lN_lt, lN_le, lN_eq, mI_eqR, mI_eqL, mI_ltL, mI_ltR, mI_leL, mI_leR, mI_add, ob1_some, ob2_some, ob3_some, ob4_some, ob5_some, ob6_some, ob7_some, ob8_some, if_true, if_false, if_pos, if_neg, Sum.elim_inl, Sum.elim_inr, un1, un2, un3, un4, un5, Nat.zero_add, Nat.add_zero, Nat.mul_one, Nat.mul_zero, Nat.sub_zero, pk_us, pk_uLs, xoq_l, xoq_r, nI_sle, F_X11_mayHave, h1, q_away hV hM, q_ofSlot hV hM]
    · rw [bI_0 (fun h : may A i b => h8 h.2)]
      simp (disch := omega) only [fa_lit, fa_litL, nI_add, pk_mul, pk_sub, nI_clamp, gi_n, gb_0, gb_1, nI_ltI, nI_leI, nI_eq, lc_lt, lc_gt, lc_ge, lc_le, lc_eq, lN_i, nI_l, lN_add, lN_mul, lN_lt, lN_le, lN_eq, mI_eqR, mI_eqL, mI_ltL, mI_ltR, mI_leL, mI_leR, mI_add, ob1_some, ob2_some, ob3_some, ob4_some, ob5_some, ob6_some, ob7_some, ob8_some, if_true, if_false, if_pos, if_neg, Sum.elim_inl, Sum.elim_inr, un1, un2, un3, un4, un5, Nat.zero_add, Nat.add_zero, Nat.mul_one, Nat.mul_zero, Nat.sub_zero, pk_us, pk_uLs, xoq_l, xoq_r, nI_sle, F_X11_mayHave, h1, q_away hV hM, q_ofSlot hV hM]
  · rw [bI_0 h7] at h1
    rw [bI_0 (fun h : may A i b => h7 h.1)]
    simp (disch := omega) only [fa_lit, fa_litL, nI_add, pk_mul, pk_sub, nI_clamp, gi_n, gb_0, gb_1, nI_ltI, nI_leI, nI_eq, lc_lt, lc_gt, lc_ge, lc_le, lc_eq, lN_i, nI_l, lN_add, lN_mul, lN_lt, lN_le, lN_eq, mI_eqR, mI_eqL, mI_ltL, mI_ltR, mI_leL, mI_leR, mI_add, ob1_some, ob2_some, ob3_some, ob4_some, ob5_some, ob6_some, ob7_some, ob8_some, if_true, if_false, if_pos, if_neg, Sum.elim_inl, Sum.elim_inr, un1, un2, un3, un4, un5, Nat.zero_add, Nat.add_zero, Nat.mul_one, Nat.mul_zero, Nat.sub_zero, pk_us, pk_uLs, xoq_l, xoq_r, nI_sle, F_X11_mayHave, h1]
theorem q_choicesLoop (hV : VA A) (hM : MR A a) {i : Nat} {th : Int32} (hi : i < A 8) : wh (fun k q => S_X11_choices_30 (nI i) th a k q.1 q.2) wF (nI 0, nI 0) = some (nI (chs A i (A 6 - 1))) := by
  have hn := hV.n
  refine whf (fun j => (nI (chs A i j), nI j)) 0 (A 6 - 1) rfl (by omega) (by omega) (fun j _ hj k => ?_) (fun k => ?_)
  · have h1 := q_mayHave hV hM hi (b := j) (by omega)
    by_cases h2 : may A i j
    · rw [bI_1 h2] at h1
      rw [chs_s, if_pos h2]
      simp (disch := omega) only [fa_lit, fa_litL, nI_add, pk_mul, pk_sub, nI_clamp, gi_n, gb_0, gb_1, nI_ltI, nI_leI, nI_eq, lc_lt, lc_gt, lc_ge, lc_le, lc_eq, lN_i, nI_l, lN_add, lN_mul, lN_lt, lN_le, lN_eq, mI_eqR, mI_eqL, mI_ltL, mI_ltR, mI_leL, mI_leR, mI_add, ob1_some, ob2_some, ob3_some, ob4_some, ob5_some, ob6_some, ob7_some, ob8_some, if_true, if_false, if_pos, if_neg, Sum.elim_inl, Sum.elim_inr, un1, un2, un3, un4, un5, Nat.zero_add, Nat.add_zero, Nat.mul_one, Nat.mul_zero, Nat.sub_zero, pk_us, pk_uLs, xoq_l, xoq_r, nI_sle, S_X11_choices_30, q_many hM, nI_sle, h1]
    · rw [bI_0 h2] at h1
      rw [chs_s, if_neg h2]
      simp (disch := omega) only [fa_lit, fa_litL, nI_add, pk_mul, pk_sub, nI_clamp, gi_n, gb_0, gb_1, nI_ltI, nI_leI, nI_eq, lc_lt, lc_gt, lc_ge, lc_le, lc_eq, lN_i, nI_l, lN_add, lN_mul, lN_lt, lN_le, lN_eq, mI_eqR, mI_eqL, mI_ltL, mI_ltR, mI_leL, mI_leR, mI_add, ob1_some, ob2_some, ob3_some, ob4_some, ob5_some, ob6_some, ob7_some, ob8_some, if_true, if_false, if_pos, if_neg, Sum.elim_inl, Sum.elim_inr, un1, un2, un3, un4, un5, Nat.zero_add, Nat.add_zero, Nat.mul_one, Nat.mul_zero, Nat.sub_zero, pk_us, pk_uLs, xoq_l, xoq_r, nI_sle, S_X11_choices_30, q_many hM, nI_sle, h1]
  · simp (disch := omega) only [fa_lit, fa_litL, nI_add, pk_mul, pk_sub, nI_clamp, gi_n, gb_0, gb_1, nI_ltI, nI_leI, nI_eq, lc_lt, lc_gt, lc_ge, lc_le, lc_eq, lN_i, nI_l, lN_add, lN_mul, lN_lt, lN_le, lN_eq, mI_eqR, mI_eqL, mI_ltL, mI_ltR, mI_leL, mI_leR, mI_add, ob1_some, ob2_some, ob3_some, ob4_some, ob5_some, ob6_some, ob7_some, ob8_some, if_true, if_false, if_pos, if_neg, Sum.elim_inl, Sum.elim_inr, un1, un2, un3, un4, un5, Nat.zero_add, Nat.add_zero, Nat.mul_one, Nat.mul_zero, Nat.sub_zero, pk_us, pk_uLs, xoq_l, xoq_r, nI_sle, S_X11_choices_30, q_many hM, nI_sle]
theorem q_bestFrom (hV : VA A) (hM : MR A a) {cos : Nat → Int32} {R : Nat → Option Nat} {i f t : Nat} (hi : i < 5) (hf : f ≤ A 6 - 1) (ht : t ≤ 100000) (hR : ∀ b, b + 1 < A 6 → cos (32 * i + b) = oF (R b)) (hRb : ∀ b c, b + 1 < A 6 → R b = some c → c ≤ 300000) :
    F_X11_bestFrom (nI i) (nI f) (nI t) a cos = some (match cp A R f t with | none => -nI 1 | some x => nI x.1) := by
  have hn := hV.n
  have key : wh (fun k q => S_X11_bestFrom_6 (nI i) (nI t) a cos k q.1 q.2) wF (-nI 1, nI f) = some (match cp A R f t with | none => -nI 1 | some x => nI x.1) := by
    refine wh_up (A 6 - 1 - f) (by omega) (fun (d : Nat) (q : Int32 × Int32) => q.2 = nI (f + d) ∧ q.1 = (match cpi A R f t d with | none => -nI 1 | some x => nI x.1)) (fun (o : Option ((Int32))) => o = some (match cp A R f t with | none => -nI 1 | some x => nI x.1)) (fun d q hd hI k hk => ?_) (Nat.zero_le _) ⟨rfl, rfl⟩
    obtain ⟨l4, l6⟩ := q
    obtain ⟨e1, e2⟩ := hI
    have e1 : l6 = nI (f + d) := e1
    subst e1
    have e2 : l4 = (match cpi A R f t d with | none => -nI 1 | some x => nI x.1) := e2
    show S_X11_bestFrom_6 (nI i) (nI t) a cos k l4 (nI (f + d)) = _
    by_cases hlt : d < A 6 - 1 - f
    · have h1 := hR (f + d) (by omega)
      have h4 := sp_b hV (s := f + d + 1) (by omega)
      have hcp := cpi_b (f := f) (t := t) hRb d (by omega)
      have e : cpi A R f t (d + 1) = match R (f + d) with
        | none => cpi A R f t d
        | some c => if sp A (f + d + 1) < t then cpi A R f t d else match cpi A R f t d with
          | none => some (f + d, c)
          | some x => if c < x.2 then some (f + d, c) else some x := rfl
      cases hc : R (f + d) with
      | none =>
        rw [hc] at e h1
        have h1 : cos (32 * i + (f + d)) = nI 1000000000 := h1
        have h9 := hk hlt (l4, nI (f + d + 1)) ⟨rfl, by rw [e]; exact e2⟩
        simp (disch := omega) only [fa_lit, fa_litL, nI_add, pk_mul, pk_sub, nI_clamp, gi_n, gb_0, gb_1, nI_ltI, nI_leI, nI_eq, lc_lt, lc_gt, lc_ge, lc_le, lc_eq, lN_i, nI_l, lN_add, lN_mul, lN_lt, lN_le, lN_eq, mI_eqR, mI_eqL, mI_ltL, mI_ltR, mI_leL, mI_leR, mI_add, ob1_some, ob2_some, ob3_some, ob4_some, ob5_some, ob6_some, ob7_some, ob8_some, if_true, if_false, if_pos, if_neg, Sum.elim_inl, Sum.elim_inr, un1, un2, un3, un4, un5, Nat.zero_add, Nat.add_zero, Nat.mul_one, Nat.mul_zero, Nat.sub_zero, pk_us, pk_uLs, xoq_l, xoq_r, nI_sle, S_X11_bestFrom_6, q_many hM, nI_sle, h1]
        exact h9
      | some c =>
        rw [hc] at e h1
        have h1 : cos (32 * i + (f + d)) = nI c := h1
        have h5 := hRb (f + d) c (by omega) hc
        by_cases h3 : sp A (f + d + 1) < t
        · have h9 := hk hlt (l4, nI (f + d + 1)) ⟨rfl, by rw [e]; dsimp only; rw [if_pos h3]; exact e2⟩
          simp (disch := omega) only [fa_lit, fa_litL, nI_add, pk_mul, pk_sub, nI_clamp, gi_n, gb_0, gb_1, nI_ltI, nI_leI, nI_eq, lc_lt, lc_gt, lc_ge, lc_le, lc_eq, lN_i, nI_l, lN_add, lN_mul, lN_lt, lN_le, lN_eq, mI_eqR, mI_eqL, mI_ltL, mI_ltR, mI_leL, mI_leR, mI_add, ob1_some, ob2_some, ob3_some, ob4_some, ob5_some, ob6_some, ob7_some, ob8_some, if_true, if_false, if_pos, if_neg, Sum.elim_inl, Sum.elim_inr, un1, un2, un3, un4, un5, Nat.zero_add, Nat.add_zero, Nat.mul_one, Nat.mul_zero, Nat.sub_zero, pk_us, pk_uLs, xoq_l, xoq_r, nI_sle, S_X11_bestFrom_6, q_many hM, nI_sle, h1, q_spoken hV hM]
          exact h9
        · dsimp only at e
          rw [if_neg h3] at e
          cases hp : cpi A R f t d with
          | none =>
            rw [hp] at e e2
            have e2 : l4 = -nI 1 := e2
            subst e2
            have h9 := hk hlt (nI (f + d), nI (f + d + 1)) ⟨rfl, by rw [e]⟩
            simp (disch := omega) only [fa_lit, fa_litL, nI_add, pk_mul, pk_sub, nI_clamp, gi_n, gb_0, gb_1, nI_ltI, nI_leI, nI_eq, lc_lt, lc_gt, lc_ge, lc_le, lc_eq, lN_i, nI_l, lN_add, lN_mul, lN_lt, lN_le, lN_eq, mI_eqR, mI_eqL, mI_ltL, mI_ltR, mI_leL, mI_leR, mI_add, ob1_some, ob2_some, ob3_some, ob4_some, ob5_some, ob6_some, ob7_some, ob8_some, if_true, if_false, if_pos, if_neg, Sum.elim_inl, Sum.elim_inr, un1, un2, un3, un4, un5, Nat.zero_add, Nat.add_zero, Nat.mul_one, Nat.mul_zero, Nat.sub_zero, pk_us, pk_uLs, xoq_l, xoq_r, nI_sle, S_X11_bestFrom_6, q_many hM, nI_sle, h1, q_spoken hV hM]
            exact h9
          | some x =>
            rw [hp] at e e2
            have e2 : l4 = nI x.1 := e2
            subst e2
            have h6 := hcp x hp
            have h10 := hR x.1 (by omega)
            rw [h6.2.2.2] at h10
            have h10 : cos (32 * i + x.1) = nI x.2 := h10
            dsimp only at e
            by_cases h7 : c < x.2
            · rw [if_pos h7] at e
              have h9 := hk hlt (nI (f + d), nI (f + d + 1)) ⟨rfl, by rw [e]⟩
              simp (disch := omega) only [fa_lit, fa_litL, nI_add, pk_mul, pk_sub, nI_clamp, gi_n, gb_0, gb_1, nI_ltI, nI_leI, nI_eq, lc_lt, lc_gt, lc_ge, lc_le, lc_eq, lN_i, nI_l, lN_add, lN_mul, lN_lt, lN_le, lN_eq, mI_eqR, mI_eqL, mI_ltL, mI_ltR, mI_leL, mI_leR, mI_add, ob1_some, ob2_some, ob3_some, ob4_some, ob5_some, ob6_some, ob7_some, ob8_some, if_true, if_false, if_pos, if_neg, Sum.elim_inl, Sum.elim_inr, un1, un2, un3, un4, un5, Nat.zero_add, Nat.add_zero, Nat.mul_one, Nat.mul_zero, Nat.sub_zero, pk_us, pk_uLs, xoq_l, xoq_r, nI_sle, S_X11_bestFrom_6, q_many hM, nI_sle, h1, h10, q_spoken hV hM]
              exact h9
            · rw [if_neg h7] at e
              have h9 := hk hlt (nI x.1, nI (f + d + 1)) ⟨rfl, by rw [e]⟩
              simp (disch := omega) only [fa_lit, fa_litL, nI_add, pk_mul, pk_sub, nI_clamp, gi_n, gb_0, gb_1, nI_ltI, nI_leI, nI_eq, lc_lt, lc_gt, lc_ge, lc_le, lc_eq, lN_i, nI_l, lN_add, lN_mul, lN_lt, lN_le, lN_eq, mI_eqR, mI_eqL, mI_ltL, mI_ltR, mI_leL, mI_leR, mI_add, ob1_some, ob2_some, ob3_some, ob4_some, ob5_some, ob6_some, ob7_some, ob8_some, if_true, if_false, if_pos, if_neg, Sum.elim_inl, Sum.elim_inr, un1, un2, un3, un4, un5, Nat.zero_add, Nat.add_zero, Nat.mul_one, Nat.mul_zero, Nat.sub_zero, pk_us, pk_uLs, xoq_l, xoq_r, nI_sle, S_X11_bestFrom_6, q_many hM, nI_sle, h1, h10, q_spoken hV hM]
              exact h9
    · have h8 : d = A 6 - 1 - f := by omega
      subst h8
      have e9 : S_X11_bestFrom_6 (nI i) (nI t) a cos k l4 (nI (f + (A 6 - 1 - f))) = some l4 := by
        simp (disch := omega) only [fa_lit, fa_litL, nI_add, pk_mul, pk_sub, nI_clamp, gi_n, gb_0, gb_1, nI_ltI, nI_leI, nI_eq, lc_lt, lc_gt, lc_ge, lc_le, lc_eq, lN_i, nI_l, lN_add, lN_mul, lN_lt, lN_le, lN_eq, mI_eqR, mI_eqL, mI_ltL, mI_ltR, mI_leL, mI_leR, mI_add, ob1_some, ob2_some, ob3_some, ob4_some, ob5_some, ob6_some, ob7_some, ob8_some, if_true, if_false, if_pos, if_neg, Sum.elim_inl, Sum.elim_inr, un1, un2, un3, un4, un5, Nat.zero_add, Nat.add_zero, Nat.mul_one, Nat.mul_zero, Nat.sub_zero, pk_us, pk_uLs, xoq_l, xoq_r, nI_sle, S_X11_bestFrom_6, q_many hM, nI_sle]
      rw [e9, e2]
      rfl
  unfold F_X11_bestFrom
  simp only [fa_lit]
  rw [key]
  rfl
theorem q_costOf (hV : VA A) (hM : MR A a) (hU : ∀ b, b + 1 < A 6 → cut b = bI (ctB A b = true)) {cos : Nat → Int32} {i b : Nat} (hi : i < A 8) (hb : b + 1 < A 6) (hC : i + 1 < A 8 → ∀ b, b + 1 < A 6 → cos (32 * (i + 1) + b) = oF (rw_ A (i + 1) b)) :
    F_X11_costOf (nI i) (nI b) a cos cut = some (oF (rw_ A i b)) := by
  have hn := hV.n
  have hl := hV.nl
  have h5 := hV.s5
  have hd := dst_b hV hi (b := b) (by omega)
  have hs := sp_b hV (s := b + 1) (by omega)
  have hch := q_mayHave hV hM hi hb
  by_cases hm : may A i b
  · rw [bI_1 hm] at hch
    have e34 : ∀ u : Nat, u ≤ 20 → F_X11_costOf_b34 (nI i) (nI b) (nI u) (nI (dst A i b)) a cos = some (oF (if i + 1 < A 8 then (match cp A (rw_ A (i + 1)) (b + 1) (sp A (b + 1) + A 5) with | none => none | some x => some (dst A i b + u + x.2)) else some (dst A i b + u))) := fun u hu => by
      have hsub : lN (A 8) - lN 1 = lN (A 8 - 1) := lN_sub (by omega)
      by_cases h1 : i + 1 < A 8
      · rw [if_pos h1]
        have hc := q_bestFrom (cos := cos) (R := rw_ A (i + 1)) (i := i + 1) (f := b + 1) (t := sp A (b + 1) + A 5) hV hM (by omega) (by omega) (by omega) (hC h1) (fun b c h2 h3 => by have := rw_b hV h1 b c h2 h3; omega)
        cases hx : cp A (rw_ A (i + 1)) (b + 1) (sp A (b + 1) + A 5) with
        | none =>
          rw [hx] at hc
          dsimp only at hc
          simp (disch := omega) only [fa_lit, fa_litL, nI_add, pk_mul, pk_sub, nI_clamp, gi_n, gb_0, gb_1, nI_ltI, nI_leI, nI_eq, lc_lt, lc_gt, lc_ge, lc_le, lc_eq, lN_i, nI_l, lN_add, lN_mul, lN_lt, lN_le, lN_eq, mI_eqR, mI_eqL, mI_ltL, mI_ltR, mI_leL, mI_leR, mI_add, ob1_some, ob2_some, ob3_some, ob4_some, ob5_some, ob6_some, ob7_some, ob8_some, if_true, if_false, if_pos, if_neg, Sum.elim_inl, Sum.elim_inr, un1, un2, un3, un4, un5, Nat.zero_add, Nat.add_zero, Nat.mul_one, Nat.mul_zero, Nat.sub_zero, pk_us, pk_uLs, xoq_l, xoq_r, nI_sle, F_X11_costOf_b34, hM.at, hsub, q_spoken hV hM, hc, oF]
        | some x =>
          rw [hx] at hc
          dsimp only at hc
          have hb2 := cp_b hV h1 hx
          have h3 := hC h1 x.1 hb2.2.1
          rw [hb2.2.2.2] at h3
          have h3 : cos (32 * (i + 1) + x.1) = nI x.2 := h3
          simp (disch := omega) only [fa_lit, fa_litL, nI_add, pk_mul, pk_sub, nI_clamp, gi_n, gb_0, gb_1, nI_ltI, nI_leI, nI_eq, lc_lt, lc_gt, lc_ge, lc_le, lc_eq, lN_i, nI_l, lN_add, lN_mul, lN_lt, lN_le, lN_eq, mI_eqR, mI_eqL, mI_ltL, mI_ltR, mI_leL, mI_leR, mI_add, ob1_some, ob2_some, ob3_some, ob4_some, ob5_some, ob6_some, ob7_some, ob8_some, if_true, if_false, if_pos, if_neg, Sum.elim_inl, Sum.elim_inr, un1, un2, un3, un4, un5, Nat.zero_add, Nat.add_zero, Nat.mul_one, Nat.mul_zero, Nat.sub_zero, pk_us, pk_uLs, xoq_l, xoq_r, nI_sle, F_X11_costOf_b34, hM.at, hsub, q_spoken hV hM, hc, oF, h3]
      · rw [if_neg h1]
        simp (disch := omega) only [fa_lit, fa_litL, nI_add, pk_mul, pk_sub, nI_clamp, gi_n, gb_0, gb_1, nI_ltI, nI_leI, nI_eq, lc_lt, lc_gt, lc_ge, lc_le, lc_eq, lN_i, nI_l, lN_add, lN_mul, lN_lt, lN_le, lN_eq, mI_eqR, mI_eqL, mI_ltL, mI_ltR, mI_leL, mI_leR, mI_add, ob1_some, ob2_some, ob3_some, ob4_some, ob5_some, ob6_some, ob7_some, ob8_some, if_true, if_false, if_pos, if_neg, Sum.elim_inl, Sum.elim_inr, un1, un2, un3, un4, un5, Nat.zero_add, Nat.add_zero, Nat.mul_one, Nat.mul_zero, Nat.sub_zero, pk_us, pk_uLs, xoq_l, xoq_r, nI_sle, F_X11_costOf_b34, hM.at, hsub, oF]
    have hr : rw_ A i b = (if i + 1 < A 8 then (match cp A (rw_ A (i + 1)) (b + 1) (sp A (b + 1) + A 5) with | none => none | some x => some (its A i b + x.2)) else some (its A i b)) := by
      by_cases h1 : i + 1 < A 8
      · rw [if_pos h1, rw_e h1, if_pos hm]
        cases cp A (rw_ A (i + 1)) (b + 1) (sp A (b + 1) + A 5) <;> rfl
      · rw [if_neg h1, rw_l (by omega), if_pos hm]
    rw [hr]
    have hu := hU b hb
    by_cases h2 : ctB A b = true
    · rw [bI_1 h2] at hu
      have e := e34 0 (by omega)
      unfold its
      simp only [if_pos h2]
      simp (disch := omega) only [fa_lit, fa_litL, nI_add, pk_mul, pk_sub, nI_clamp, gi_n, gb_0, gb_1, nI_ltI, nI_leI, nI_eq, lc_lt, lc_gt, lc_ge, lc_le, lc_eq, lN_i, nI_l, lN_add, lN_mul, lN_lt, lN_le, lN_eq, mI_eqR, mI_eqL, mI_ltL, mI_ltR, mI_leL, mI_leR, mI_add, ob1_some, ob2_some, ob3_some, ob4_some, ob5_some, ob6_some, ob7_some, ob8_some, if_true, if_false, if_pos, if_neg, Sum.elim_inl, Sum.elim_inr, un1, un2, un3, un4, un5, Nat.zero_add, Nat.add_zero, Nat.mul_one, Nat.mul_zero, Nat.sub_zero, pk_us, pk_uLs, xoq_l, xoq_r, nI_sle, F_X11_costOf, hch, q_away hV hM, hu]
      exact e
    · rw [bI_0 h2] at hu
      have e := e34 20 (by omega)
      unfold its
      simp only [if_neg h2]
      simp (disch := omega) only [fa_lit, fa_litL, nI_add, pk_mul, pk_sub, nI_clamp, gi_n, gb_0, gb_1, nI_ltI, nI_leI, nI_eq, lc_lt, lc_gt, lc_ge, lc_le, lc_eq, lN_i, nI_l, lN_add, lN_mul, lN_lt, lN_le, lN_eq, mI_eqR, mI_eqL, mI_ltL, mI_ltR, mI_leL, mI_leR, mI_add, ob1_some, ob2_some, ob3_some, ob4_some, ob5_some, ob6_some, ob7_some, ob8_some, if_true, if_false, if_pos, if_neg, Sum.elim_inl, Sum.elim_inr, un1, un2, un3, un4, un5, Nat.zero_add, Nat.add_zero, Nat.mul_one, Nat.mul_zero, Nat.sub_zero, pk_us, pk_uLs, xoq_l, xoq_r, nI_sle, F_X11_costOf, hch, q_away hV hM, hu]
      exact e
  · rw [bI_0 hm] at hch
    have hr : rw_ A i b = none := by
      by_cases h1 : i + 1 < A 8
      · rw [rw_e h1, if_neg hm]
      · rw [rw_l (by omega), if_neg hm]
    rw [hr]
    simp (disch := omega) only [fa_lit, fa_litL, nI_add, pk_mul, pk_sub, nI_clamp, gi_n, gb_0, gb_1, nI_ltI, nI_leI, nI_eq, lc_lt, lc_gt, lc_ge, lc_le, lc_eq, lN_i, nI_l, lN_add, lN_mul, lN_lt, lN_le, lN_eq, mI_eqR, mI_eqL, mI_ltL, mI_ltR, mI_leL, mI_leR, mI_add, ob1_some, ob2_some, ob3_some, ob4_some, ob5_some, ob6_some, ob7_some, ob8_some, if_true, if_false, if_pos, if_neg, Sum.elim_inl, Sum.elim_inr, un1, un2, un3, un4, un5, Nat.zero_add, Nat.add_zero, Nat.mul_one, Nat.mul_zero, Nat.sub_zero, pk_us, pk_uLs, xoq_l, xoq_r, nI_sle, F_X11_costOf, hch, oF]
theorem nar_0 : vp_nar .boolean (nI 0) = nI 0 := by decide
theorem nar_1 : vp_nar .boolean (nI 1) = nI 1 := by decide
theorem q_laysCuts (hV : VA A) (hM : MR A a) {W C E G : Nat → Int32} {Y : Nat → Int64} {cut0 : Nat → Int32} :
    ∃ W' C' E' G' Y' cut', F_X11_laysCuts (-nI 1) (-nI 1) a W C E G Y cut0 = some (W', C', E', G', Y', cut') ∧ RB A W' C' E' ∧ ∀ b, b + 1 < A 6 → cut' b = bI (ctB A b = true) := by
  have hn := hV.n
  obtain ⟨c1, f1, f2⟩ : ∃ c1, wh (fun k q => S_X11_laysCuts_2 (-nI 1) (-nI 1) a W C E G Y k q.1 q.2) wF (nI 0, cut0) = some c1 ∧ ∀ b, b < 32 → c1 b = nI 0 := by
    refine wh_up 32 (by omega) (fun (j : Nat) (q : Int32 × (Nat → Int32)) => q.1 = nI j ∧ ∀ b, b < j → q.2 b = nI 0) (fun (o : Option (((Nat → Int32)))) => ∃ c1, o = some c1 ∧ ∀ b, b < 32 → c1 b = nI 0) (fun j q hj hI k hk => ?_) (Nat.zero_le _) ⟨rfl, fun b h => absurd h (Nat.not_lt_zero b)⟩
    obtain ⟨l, P⟩ := q
    obtain ⟨e1, e2⟩ := hI
    have e1 : l = nI j := e1
    subst e1
    have e2 : ∀ b, b < j → P b = nI 0 := e2
    by_cases hlt : j < 32
    · have h9 := hk hlt (nI (j + 1), upd P j (nI 0)) ⟨rfl, fun b hb => ?_⟩
      · simp (disch := omega) only [fa_lit, fa_litL, nI_add, pk_mul, pk_sub, nI_clamp, gi_n, gb_0, gb_1, nI_ltI, nI_leI, nI_eq, lc_lt, lc_gt, lc_ge, lc_le, lc_eq, lN_i, nI_l, lN_add, lN_mul, lN_lt, lN_le, lN_eq, mI_eqR, mI_eqL, mI_ltL, mI_ltR, mI_leL, mI_leR, mI_add, ob1_some, ob2_some, ob3_some, ob4_some, ob5_some, ob6_some, ob7_some, ob8_some, if_true, if_false, if_pos, if_neg, Sum.elim_inl, Sum.elim_inr, un1, un2, un3, un4, un5, Nat.zero_add, Nat.add_zero, Nat.mul_one, Nat.mul_zero, Nat.sub_zero, pk_us, pk_uLs, xoq_l, xoq_r, nI_sle, S_X11_laysCuts_2, nar_0]
        exact h9
      · show upd P j _ b = _
        by_cases h0 : b = j
        · subst h0; exact pk_us
        · rw [pk_un h0]; exact e2 b (by omega)
    · refine ⟨P, ?_, fun b hb => e2 b (by omega)⟩
      simp (disch := omega) only [fa_lit, fa_litL, nI_add, pk_mul, pk_sub, nI_clamp, gi_n, gb_0, gb_1, nI_ltI, nI_leI, nI_eq, lc_lt, lc_gt, lc_ge, lc_le, lc_eq, lN_i, nI_l, lN_add, lN_mul, lN_lt, lN_le, lN_eq, mI_eqR, mI_eqL, mI_ltL, mI_ltR, mI_leL, mI_leR, mI_add, ob1_some, ob2_some, ob3_some, ob4_some, ob5_some, ob6_some, ob7_some, ob8_some, if_true, if_false, if_pos, if_neg, Sum.elim_inl, Sum.elim_inr, un1, un2, un3, un4, un5, Nat.zero_add, Nat.add_zero, Nat.mul_one, Nat.mul_zero, Nat.sub_zero, pk_us, pk_uLs, xoq_l, xoq_r, nI_sle, S_X11_laysCuts_2]
  obtain ⟨W', C', E', G', Y', g1, g2, -⟩ := q_best (W := W) (C := C) (L := E) (G := G) (Y := Y) hV hM
  unfold F_X11_laysCuts
  simp only [fa_lit]
  rw [ob1_s f1, ob6_s g1]
  cases hx : tbl A 0 with
  | none =>
    rw [bI_0 (by decide), if_pos rfl]
    refine ⟨W', C', E', G', Y', c1, rfl, g2, fun b hb => ?_⟩
    rw [f2 b (by omega), bI_0 (by unfold ctB; rw [hx]; exact Bool.false_ne_true)]
  | some x =>
    have hc := tbl_cht hx
    have hK := hc.K
    have h0 := g2.z hx
    rw [bI_1 (show (some x).isSome = true from rfl), if_neg (by decide)]
    obtain ⟨c2, f3, f4⟩ : ∃ c2, wh (fun k q => S_X11_laysCuts_31 W' C' E' G' Y' k q.1 q.2) wF (nI 0, c1) = some c2 ∧ ∀ b, b + 1 < A 6 → c2 b = bI (ctB A b = true) := by
      refine wh_up x.2.1 (by omega) (fun (j : Nat) (q : Int32 × (Nat → Int32)) => q.1 = nI j ∧ ∀ b, b + 1 < A 6 → (∀ k, k < j → bg (tbl A) (k + 1) = b + 1 → q.2 b = nI 1) ∧ ((∀ k, k < j → bg (tbl A) (k + 1) ≠ b + 1) → q.2 b = nI 0)) (fun (o : Option (((Nat → Int32)))) => ∃ c2, o = some c2 ∧ ∀ b, b + 1 < A 6 → c2 b = bI (ctB A b = true)) (fun j q hj hI k hk => ?_) (Nat.zero_le _) ⟨rfl, fun b hb => ⟨fun k h => absurd h (Nat.not_lt_zero k), fun _ => f2 b (by omega)⟩⟩
      obtain ⟨l, P⟩ := q
      obtain ⟨e1, e2⟩ := hI
      have e1 : l = nI j := e1
      subst e1
      have e2 : ∀ b, b + 1 < A 6 → (∀ k, k < j → bg (tbl A) (k + 1) = b + 1 → P b = nI 1) ∧ ((∀ k, k < j → bg (tbl A) (k + 1) ≠ b + 1) → P b = nI 0) := e2
      by_cases hlt : j < x.2.1
      · have h3 := g2.en hx (k := j) (by omega)
        have h4 := (hc.1 j (by omega)).1
        have h5 := hc.le (i := j + 1) (j := x.2.1 + 1) (by omega) (Nat.le_refl _)
        rw [hc.2] at h5
        have h6 := bg_s (tbl A) j
        have h7 := hc.lt (i := j + 1) (j := x.2.1 + 1) (by omega) (Nat.le_refl _)
        rw [hc.2] at h7
        have h9 := hk hlt (nI (j + 1), upd P (en (tbl A) (bg (tbl A) j)) (nI 1)) ⟨rfl, fun b hb => ⟨fun k h1 h2 => ?_, fun h => ?_⟩⟩
        · simp (disch := omega) only [fa_lit, fa_litL, nI_add, pk_mul, pk_sub, nI_clamp, gi_n, gb_0, gb_1, nI_ltI, nI_leI, nI_eq, lc_lt, lc_gt, lc_ge, lc_le, lc_eq, lN_i, nI_l, lN_add, lN_mul, lN_lt, lN_le, lN_eq, mI_eqR, mI_eqL, mI_ltL, mI_ltR, mI_leL, mI_leR, mI_add, ob1_some, ob2_some, ob3_some, ob4_some, ob5_some, ob6_some, ob7_some, ob8_some, if_true, if_false, if_pos, if_neg, Sum.elim_inl, Sum.elim_inr, un1, un2, un3, un4, un5, Nat.zero_add, Nat.add_zero, Nat.mul_one, Nat.mul_zero, Nat.sub_zero, pk_us, pk_uLs, xoq_l, xoq_r, nI_sle, S_X11_laysCuts_31, h0.2.1, q_beginOf hV hx g2, h3, nar_1]
          exact h9
        · show upd P (en (tbl A) (bg (tbl A) j)) (nI 1) b = nI 1
          by_cases e3 : b = en (tbl A) (bg (tbl A) j)
          · rw [e3, pk_us]
          · rw [pk_un e3]
            refine (e2 b hb).1 k ?_ h2
            rcases Nat.lt_or_ge k j with h8 | h8
            · exact h8
            · have h10 : k = j := by omega
              subst h10; omega
        · show upd P (en (tbl A) (bg (tbl A) j)) (nI 1) b = nI 0
          have h8 := h j (by omega)
          rw [pk_un (by omega)]
          exact (e2 b hb).2 (fun k hk => h k (by omega))
      · have h8 : j = x.2.1 := by omega
        subst h8
        refine ⟨P, ?_, fun b hb => ?_⟩
        · simp (disch := omega) only [fa_lit, fa_litL, nI_add, pk_mul, pk_sub, nI_clamp, gi_n, gb_0, gb_1, nI_ltI, nI_leI, nI_eq, lc_lt, lc_gt, lc_ge, lc_le, lc_eq, lN_i, nI_l, lN_add, lN_mul, lN_lt, lN_le, lN_eq, mI_eqR, mI_eqL, mI_ltL, mI_ltR, mI_leL, mI_leR, mI_add, ob1_some, ob2_some, ob3_some, ob4_some, ob5_some, ob6_some, ob7_some, ob8_some, if_true, if_false, if_pos, if_neg, Sum.elim_inl, Sum.elim_inr, un1, un2, un3, un4, un5, Nat.zero_add, Nat.add_zero, Nat.mul_one, Nat.mul_zero, Nat.sub_zero, pk_us, pk_uLs, xoq_l, xoq_r, nI_sle, S_X11_laysCuts_31, h0.2.1]
        · by_cases h1 : ctB A b = true
          · obtain ⟨k, h2, h3⟩ := (ctB_iff hx).mp h1
            rw [bI_1 h1, (e2 b hb).1 k h2 h3]
          · rw [bI_0 h1]
            exact (e2 b hb).2 (fun k h2 h3 => h1 ((ctB_iff hx).mpr ⟨k, h2, h3⟩))
    rw [ob1_s f3]
    exact ⟨W', C', E', G', Y', c2, rfl, g2, f4⟩
theorem q_laysPlaces (hV : VA A) (hM : MR A a) {W C E G cos pl : Nat → Int32} {Y : Nat → Int64} {cut0 : Nat → Int32} :
    ∃ W' C' E' G' Y' cos' pl' cut', F_X11_laysPlaces (-nI 1) (-nI 1) a W C E G Y cos pl cut0 = some (oI (pco A), W', C', E', G', Y', cos', pl', cut') ∧ RB A W' C' E' ∧ ((pco A).isSome = true → ∀ i x, i < A 8 → plc A i = some x → pl' i = nI x.1) := by
  have hn := hV.n
  have hl := hV.nl
  have h5 := hV.s5
  obtain ⟨W', C', E', G', Y', cut', f1, f2, f3⟩ := q_laysCuts (W := W) (C := C) (E := E) (G := G) (Y := Y) (cut0 := cut0) hV hM
  obtain ⟨cos', f4, f5⟩ : ∃ cos', wh (fun k q => S_X11_laysPlaces_17 (nI (A 8)) a W' C' E' G' Y' pl cut' k q.1 q.2) wF (nI (A 8) - nI 1, cos) = some cos' ∧ ∀ i, i < A 8 → ∀ b, b + 1 < A 6 → cos' (32 * i + b) = oF (rw_ A i b) := by
    refine wh_up (A 8) (by omega) (fun (d : Nat) (q : Int32 × (Nat → Int32)) => q.1 = nI (A 8 - d) - nI 1 ∧ ∀ i, A 8 ≤ i + d → i < A 8 → ∀ b, b + 1 < A 6 → q.2 (32 * i + b) = oF (rw_ A i b)) (fun (o : Option (((Nat → Int32)))) => ∃ cos', o = some cos' ∧ ∀ i, i < A 8 → ∀ b, b + 1 < A 6 → cos' (32 * i + b) = oF (rw_ A i b)) (fun d q hd hI k hk => ?_) (Nat.zero_le _) ⟨rfl, fun i h1 h2 => by omega⟩
    obtain ⟨l, P⟩ := q
    obtain ⟨e1, e2⟩ := hI
    have e1 : l = nI (A 8 - d) - nI 1 := e1
    subst e1
    have e2 : ∀ i, A 8 ≤ i + d → i < A 8 → ∀ b, b + 1 < A 6 → P (32 * i + b) = oF (rw_ A i b) := e2
    by_cases hlt : d < A 8
    · obtain ⟨i, hi⟩ : ∃ i, i = A 8 - d - 1 := ⟨_, rfl⟩
      obtain ⟨P', g1, g2, g3⟩ : ∃ P', wh (fun k q => S_X11_laysPlaces_23 (nI (A 8)) (nI i) a W' C' E' G' Y' pl cut' k q.1 q.2) wF (nI 0, P) = some P' ∧ (∀ b, b + 1 < A 6 → P' (32 * i + b) = oF (rw_ A i b)) ∧ ∀ j, 32 * (i + 1) ≤ j → P' j = P j := by
        refine wh_up (A 6 - 1) (by omega) (fun (j : Nat) (q : Int32 × (Nat → Int32)) => q.1 = nI j ∧ (∀ b, b < j → q.2 (32 * i + b) = oF (rw_ A i b)) ∧ ∀ j, 32 * (i + 1) ≤ j → q.2 j = P j) (fun (o : Option (((Nat → Int32)))) => ∃ P', o = some P' ∧ (∀ b, b + 1 < A 6 → P' (32 * i + b) = oF (rw_ A i b)) ∧ ∀ j, 32 * (i + 1) ≤ j → P' j = P j) (fun j q hj hI k hk => ?_) (Nat.zero_le _) ⟨rfl, fun b h => absurd h (Nat.not_lt_zero b), fun _ _ => rfl⟩
        obtain ⟨l, R⟩ := q
        obtain ⟨e1, e3, e4⟩ := hI
        have e1 : l = nI j := e1
        subst e1
        have e3 : ∀ b, b < j → R (32 * i + b) = oF (rw_ A i b) := e3
        have e4 : ∀ j, 32 * (i + 1) ≤ j → R j = P j := e4
        by_cases hlt2 : j < A 6 - 1
        · have h6 := q_costOf (cos := R) (i := i) (b := j) hV hM f3 (by omega) (by omega) (fun h7 b hb => by
            rw [e4 _ (by omega)]
            exact e2 (i + 1) (by omega) h7 b hb)
          have h9 := hk hlt2 (nI (j + 1), upd R (32 * i + j) (oF (rw_ A i j))) ⟨rfl, fun b hb => ?_, fun j2 hj2 => ?_⟩
          · simp (disch := omega) only [fa_lit, fa_litL, nI_add, pk_mul, pk_sub, nI_clamp, gi_n, gb_0, gb_1, nI_ltI, nI_leI, nI_eq, lc_lt, lc_gt, lc_ge, lc_le, lc_eq, lN_i, nI_l, lN_add, lN_mul, lN_lt, lN_le, lN_eq, mI_eqR, mI_eqL, mI_ltL, mI_ltR, mI_leL, mI_leR, mI_add, ob1_some, ob2_some, ob3_some, ob4_some, ob5_some, ob6_some, ob7_some, ob8_some, if_true, if_false, if_pos, if_neg, Sum.elim_inl, Sum.elim_inr, un1, un2, un3, un4, un5, Nat.zero_add, Nat.add_zero, Nat.mul_one, Nat.mul_zero, Nat.sub_zero, pk_us, pk_uLs, xoq_l, xoq_r, nI_sle, S_X11_laysPlaces_23, q_many hM, nI_sle, h6]
            exact h9
          · show upd R (32 * i + j) _ (32 * i + b) = _
            by_cases h0 : b = j
            · subst h0; exact pk_us
            · rw [pk_un (by omega)]; exact e3 b (by omega)
          · show upd R (32 * i + j) _ j2 = _
            rw [pk_un (by omega)]; exact e4 j2 hj2
        · refine ⟨R, ?_, fun b hb => e3 b (by omega), e4⟩
          simp (disch := omega) only [fa_lit, fa_litL, nI_add, pk_mul, pk_sub, nI_clamp, gi_n, gb_0, gb_1, nI_ltI, nI_leI, nI_eq, lc_lt, lc_gt, lc_ge, lc_le, lc_eq, lN_i, nI_l, lN_add, lN_mul, lN_lt, lN_le, lN_eq, mI_eqR, mI_eqL, mI_ltL, mI_ltR, mI_leL, mI_leR, mI_add, ob1_some, ob2_some, ob3_some, ob4_some, ob5_some, ob6_some, ob7_some, ob8_some, if_true, if_false, if_pos, if_neg, Sum.elim_inl, Sum.elim_inr, un1, un2, un3, un4, un5, Nat.zero_add, Nat.add_zero, Nat.mul_one, Nat.mul_zero, Nat.sub_zero, pk_us, pk_uLs, xoq_l, xoq_r, nI_sle, S_X11_laysPlaces_23, q_many hM, nI_sle]
      have h9 := hk hlt (nI (A 8 - (d + 1)) - nI 1, P') ⟨rfl, fun j h1 h2 b hb => ?_⟩
      · rw [hi] at g1
        simp (disch := omega) only [fa_lit, fa_litL, nI_add, pk_mul, pk_sub, nI_clamp, gi_n, gb_0, gb_1, nI_ltI, nI_leI, nI_eq, lc_lt, lc_gt, lc_ge, lc_le, lc_eq, lN_i, nI_l, lN_add, lN_mul, lN_lt, lN_le, lN_eq, mI_eqR, mI_eqL, mI_ltL, mI_ltR, mI_leL, mI_leR, mI_add, ob1_some, ob2_some, ob3_some, ob4_some, ob5_some, ob6_some, ob7_some, ob8_some, if_true, if_false, if_pos, if_neg, Sum.elim_inl, Sum.elim_inr, un1, un2, un3, un4, un5, Nat.zero_add, Nat.add_zero, Nat.mul_one, Nat.mul_zero, Nat.sub_zero, pk_us, pk_uLs, xoq_l, xoq_r, nI_sle, S_X11_laysPlaces_17, g1, dn_m1]
        exact h9
      · show P' (32 * j + b) = oF (rw_ A j b)
        by_cases h0 : j = i
        · subst h0; exact g2 b hb
        · rw [g3 _ (by omega)]; exact e2 j (by omega) h2 b hb
    · have h8 : d = A 8 := by omega
      subst h8
      refine ⟨P, ?_, fun i hi => e2 i (by omega) hi⟩
      have h5 : nI (A 8 - A 8) - nI 1 < nI 0 := by rw [Nat.sub_self]; decide
      unfold S_X11_laysPlaces_17
      simp only [fa_lit]
      rw [if_pos h5]
  have key : ∃ pl', wh (fun k q => S_X11_laysPlaces_69 (nI (A 8)) a W' C' E' G' Y' cos' cut' k q.1 q.2.1 q.2.2.1 q.2.2.2) wF (nI 0, nI 0, nI 0, pl) = some (if (pco A).isSome = true then .inr pl' else .inl pl') ∧ ((pco A).isSome = true → ∀ i x, i < A 8 → plc A i = some x → pl' i = nI x.1) := by
    refine wh_up (A 8) (by omega) (fun (i : Nat) (q : Int32 × Int32 × Int32 × (Nat → Int32)) => ∃ y P, pst A i = some y ∧ q = (nI y.1, nI y.2, nI i, P) ∧ ∀ j x, j < i → plc A j = some x → P j = nI x.1) (fun (o : Option (((Nat → Int32)) ⊕ ((Nat → Int32)))) => ∃ pl', o = some (if (pco A).isSome = true then .inr pl' else .inl pl') ∧ ((pco A).isSome = true → ∀ i x, i < A 8 → plc A i = some x → pl' i = nI x.1)) (fun i q hi hI k hk => ?_) (Nat.zero_le _) ⟨(0, 0), pl, rfl, rfl, fun j x h => absurd h (Nat.not_lt_zero j)⟩
    obtain ⟨y, P, h1, rfl, h3⟩ := hI
    show ∃ pl', S_X11_laysPlaces_69 (nI (A 8)) a W' C' E' G' Y' cos' cut' k (nI y.1) (nI y.2) (nI i) P = _ ∧ _
    by_cases hlt : i < A 8
    · have hy := pst_b hV hi h1
      have hc := q_bestFrom (cos := cos') (R := rw_ A i) (i := i) (f := y.1) (t := y.2) hV hM (by omega) (by omega) (by omega) (f5 i hlt) (fun b c h2 h3 => by have := rw_b hV hlt b c h2 h3; omega)
      have hp : plc A i = cp A (rw_ A i) y.1 y.2 := by
        unfold plc
        rw [h1]
      cases hx : cp A (rw_ A i) y.1 y.2 with
      | none =>
        rw [hx] at hc hp
        dsimp only at hc
        have h4 : pst A (i + 1) = none := by rw [pst_s, hp]
        have h6 := pst_no h4 (A 8 - (i + 1))
        rw [show i + 1 + (A 8 - (i + 1)) = A 8 by omega] at h6
        have h7 : pco A = none := by unfold pco; rw [h6]
        rw [h7]
        refine ⟨upd P i (-nI 1), ?_, fun h => absurd h (by decide)⟩
        rw [if_neg (by decide)]
        simp (disch := omega) only [fa_lit, fa_litL, nI_add, pk_mul, pk_sub, nI_clamp, gi_n, gb_0, gb_1, nI_ltI, nI_leI, nI_eq, lc_lt, lc_gt, lc_ge, lc_le, lc_eq, lN_i, nI_l, lN_add, lN_mul, lN_lt, lN_le, lN_eq, mI_eqR, mI_eqL, mI_ltL, mI_ltR, mI_leL, mI_leR, mI_add, ob1_some, ob2_some, ob3_some, ob4_some, ob5_some, ob6_some, ob7_some, ob8_some, if_true, if_false, if_pos, if_neg, Sum.elim_inl, Sum.elim_inr, un1, un2, un3, un4, un5, Nat.zero_add, Nat.add_zero, Nat.mul_one, Nat.mul_zero, Nat.sub_zero, pk_us, pk_uLs, xoq_l, xoq_r, nI_sle, S_X11_laysPlaces_69, hc]
      | some x =>
        rw [hx] at hc hp
        dsimp only at hc
        have hb2 := cp_b hV hlt hx
        have h8 : pst A (i + 1) = some (x.1 + 1, sp A (x.1 + 1) + A 5) := by rw [pst_s, hp]
        have h9 := hk hlt (nI (x.1 + 1), nI (sp A (x.1 + 1) + A 5), nI (i + 1), upd P i (nI x.1)) ⟨_, upd P i (nI x.1), h8, rfl, fun j z hj hz => ?_⟩
        · simp (disch := omega) only [fa_lit, fa_litL, nI_add, pk_mul, pk_sub, nI_clamp, gi_n, gb_0, gb_1, nI_ltI, nI_leI, nI_eq, lc_lt, lc_gt, lc_ge, lc_le, lc_eq, lN_i, nI_l, lN_add, lN_mul, lN_lt, lN_le, lN_eq, mI_eqR, mI_eqL, mI_ltL, mI_ltR, mI_leL, mI_leR, mI_add, ob1_some, ob2_some, ob3_some, ob4_some, ob5_some, ob6_some, ob7_some, ob8_some, if_true, if_false, if_pos, if_neg, Sum.elim_inl, Sum.elim_inr, un1, un2, un3, un4, un5, Nat.zero_add, Nat.add_zero, Nat.mul_one, Nat.mul_zero, Nat.sub_zero, pk_us, pk_uLs, xoq_l, xoq_r, nI_sle, S_X11_laysPlaces_69, hc, q_spoken hV hM, hM.at]
          exact h9
        · by_cases h0 : j = i
          · subst h0
            rw [hp] at hz
            cases hz
            exact pk_us
          · rw [pk_un h0]; exact h3 j z (by omega) hz
    · have h8 : i = A 8 := by omega
      subst h8
      have h7 : (pco A).isSome = true := by
        unfold pco
        rw [h1]
        by_cases h0 : A 8 = 0
        · dsimp only; rw [if_pos h0]; rfl
        · dsimp only; rw [if_neg h0]
          cases hx : plc A 0 with
          | some x => rfl
          | none =>
            have h4 : pst A (0 + 1) = none := by rw [pst_s, hx]
            have h6 := pst_no h4 (A 8 - 1)
            rw [show 0 + 1 + (A 8 - 1) = A 8 by omega, h1] at h6
            cases h6
      refine ⟨P, ?_, fun _ j x hj hx => h3 j x hj hx⟩
      rw [if_pos h7]
      simp (disch := omega) only [fa_lit, fa_litL, nI_add, pk_mul, pk_sub, nI_clamp, gi_n, gb_0, gb_1, nI_ltI, nI_leI, nI_eq, lc_lt, lc_gt, lc_ge, lc_le, lc_eq, lN_i, nI_l, lN_add, lN_mul, lN_lt, lN_le, lN_eq, mI_eqR, mI_eqL, mI_ltL, mI_ltR, mI_leL, mI_leR, mI_add, ob1_some, ob2_some, ob3_some, ob4_some, ob5_some, ob6_some, ob7_some, ob8_some, if_true, if_false, if_pos, if_neg, Sum.elim_inl, Sum.elim_inr, un1, un2, un3, un4, un5, Nat.zero_add, Nat.add_zero, Nat.mul_one, Nat.mul_zero, Nat.sub_zero, pk_us, pk_uLs, xoq_l, xoq_r, nI_sle, S_X11_laysPlaces_69]
  obtain ⟨pl', g1, g2⟩ := key
  refine ⟨W', C', E', G', Y', cos', pl', cut', ?_, f2, g2⟩
  unfold F_X11_laysPlaces
  have h8 := hM.at (k := 8) (by omega)
  simp (disch := omega) only [fa_lit, fa_litL, nI_add, pk_mul, pk_sub, nI_clamp, gi_n, gb_0, gb_1, nI_ltI, nI_leI, nI_eq, lc_lt, lc_gt, lc_ge, lc_le, lc_eq, lN_i, nI_l, lN_add, lN_mul, lN_lt, lN_le, lN_eq, mI_eqR, mI_eqL, mI_ltL, mI_ltR, mI_leL, mI_leR, mI_add, ob1_some, ob2_some, ob3_some, ob4_some, ob5_some, ob6_some, ob7_some, ob8_some, if_true, if_false, if_pos, if_neg, Sum.elim_inl, Sum.elim_inr, un1, un2, un3, un4, un5, Nat.zero_add, Nat.add_zero, Nat.mul_one, Nat.mul_zero, Nat.sub_zero, pk_us, pk_uLs, xoq_l, xoq_r, nI_sle, h8]
  rw [ob6_s f1, ob1_s f4, g1]
  cases hp : pco A with
  | none =>
    rw [if_neg (by decide)]
    rfl
  | some c =>
    rw [if_pos (show (some c).isSome = true from rfl)]
    by_cases h0 : A 8 = 0
    · have hc : c = 0 := by
        unfold pco at hp
        rw [h0] at hp
        cases hp; rfl
      subst hc
      simp (disch := omega) only [fa_lit, fa_litL, nI_add, pk_mul, pk_sub, nI_clamp, gi_n, gb_0, gb_1, nI_ltI, nI_leI, nI_eq, lc_lt, lc_gt, lc_ge, lc_le, lc_eq, lN_i, nI_l, lN_add, lN_mul, lN_lt, lN_le, lN_eq, mI_eqR, mI_eqL, mI_ltL, mI_ltR, mI_leL, mI_leR, mI_add, ob1_some, ob2_some, ob3_some, ob4_some, ob5_some, ob6_some, ob7_some, ob8_some, if_true, if_false, if_pos, if_neg, Sum.elim_inl, Sum.elim_inr, un1, un2, un3, un4, un5, Nat.zero_add, Nat.add_zero, Nat.mul_one, Nat.mul_zero, Nat.sub_zero, pk_us, pk_uLs, xoq_l, xoq_r, nI_sle, oI]
    · obtain ⟨x, hx⟩ := pco_some hp 0 (by omega)
      have h1 := g2 (by rw [hp]; rfl) 0 x (by omega) hx
      have h2 : cp A (rw_ A 0) 0 0 = some x := hx
      have h3 := cp_b hV (by omega) h2
      have h4 := f5 0 (by omega) x.1 h3.2.1
      rw [h3.2.2.2, Nat.mul_zero, Nat.zero_add] at h4
      have h4 : cos' x.1 = nI x.2 := h4
      have hc : c = x.2 := by
        unfold pco at hp
        cases hy : pst A (A 8) with
        | none => rw [hy] at hp; cases hp
        | some y =>
          rw [hy] at hp
          dsimp only at hp
          rw [if_neg h0, hx] at hp
          cases hp; rfl
      subst hc
      simp (disch := omega) only [fa_lit, fa_litL, nI_add, pk_mul, pk_sub, nI_clamp, gi_n, gb_0, gb_1, nI_ltI, nI_leI, nI_eq, lc_lt, lc_gt, lc_ge, lc_le, lc_eq, lN_i, nI_l, lN_add, lN_mul, lN_lt, lN_le, lN_eq, mI_eqR, mI_eqL, mI_ltL, mI_ltR, mI_leL, mI_leR, mI_add, ob1_some, ob2_some, ob3_some, ob4_some, ob5_some, ob6_some, ob7_some, ob8_some, if_true, if_false, if_pos, if_neg, Sum.elim_inl, Sum.elim_inr, un1, un2, un3, un4, un5, Nat.zero_add, Nat.add_zero, Nat.mul_one, Nat.mul_zero, Nat.sub_zero, pk_us, pk_uLs, xoq_l, xoq_r, nI_sle, oI, h1, h4]
theorem q_realTime (hV : VA A) (hM : MR A a) {W C E G cos pl : Nat → Int32} {Y : Nat → Int64} {cut0 : Nat → Int32} {s : Nat} (hs : s ≤ A 6) :
    ∃ W' C' E' G' Y' cos' pl' cut', F_X11_realTime (nI s) (-nI 1) (-nI 1) a W C E G Y cos pl cut0 = some (nI (rtt A s), W', C', E', G', Y', cos', pl', cut') ∧ RB A W' C' E' := by
  have hn := hV.n
  have hl := hV.nl
  obtain ⟨W', C', E', G', Y', cos', pl', cut', f1, f2, f3⟩ := q_laysPlaces (W := W) (C := C) (E := E) (G := G) (Y := Y) (cos := cos) (pl := pl) (cut0 := cut0) hV hM
  refine ⟨W', C', E', G', Y', cos', pl', cut', ?_, f2⟩
  unfold F_X11_realTime rtt
  rw [q_spoken hV hM hs, ob1_some]
  simp only [fa_lit]
  rw [ob9_s f1]
  cases hp : pco A with
  | none =>
    rw [if_neg (show ¬ (none : Option Nat).isSome = true by decide)]
    exact if_pos rfl
  | some c =>
    have hx := fun i hi => pco_some hp i hi
    have hpl := f3 (by rw [hp]; rfl)
    have hc : ¬ oI (some c) = -nI 1 := fun h => by
      have h1 : c ≤ 210000 := by
        unfold pco at hp
        cases hy : pst A (A 8) with
        | none => rw [hy] at hp; cases hp
        | some y =>
          rw [hy] at hp
          dsimp only at hp
          by_cases h0 : A 8 = 0
          · rw [if_pos h0] at hp; cases hp; omega
          · rw [if_neg h0] at hp
            cases hz : plc A 0 with
            | none => rw [hz] at hp; cases hp
            | some x =>
              rw [hz] at hp
              cases hp
              have h2 : cp A (rw_ A 0) 0 0 = some x := hz
              exact (cp_b hV (by omega) h2).2.2.1
      have h2 : nI c = -nI 1 := h
      rw [mI_eqR (by omega)] at h2
      exact h2
    rw [if_neg hc, if_pos (show (some c).isSome = true from rfl)]
    have key : wh (fun k q => S_X11_realTime_18 (nI s) a W' C' E' G' Y' cos' pl' cut' k q.1 q.2) wF (nI (sp A s), nI 0) = some (nI (sp A s + rtm A s (A 8))) := by
      refine whf (fun j => (nI (sp A s + rtm A s j), nI j)) 0 (A 8) rfl (by omega) (by omega) (fun j _ hj k => ?_) (fun k => ?_)
      · obtain ⟨x, hx⟩ := hx j hj
        have h1 := hpl j x hj hx
        have h2 := q_ofSlot hV hM hj (w := 1) (by omega)
        have h3 := hV.slot hj
        have h4 : x.1 < 32 := by
          unfold plc at hx
          cases hy : pst A j with
          | none => rw [hy] at hx; cases hx
          | some y =>
            rw [hy] at hx
            have := (cp_b hV hj hx).2.1
            omega
        rw [rtm_s hx]
        by_cases h5 : x.1 < s
        · rw [if_pos h5]
          simp (disch := omega) only [fa_lit, fa_litL, nI_add, pk_mul, pk_sub, nI_clamp, gi_n, gb_0, gb_1, nI_ltI, nI_leI, nI_eq, lc_lt, lc_gt, lc_ge, lc_le, lc_eq, lN_i, nI_l, lN_add, lN_mul, lN_lt, lN_le, lN_eq, mI_eqR, mI_eqL, mI_ltL, mI_ltR, mI_leL, mI_leR, mI_add, ob1_some, ob2_some, ob3_some, ob4_some, ob5_some, ob6_some, ob7_some, ob8_some, if_true, if_false, if_pos, if_neg, Sum.elim_inl, Sum.elim_inr, un1, un2, un3, un4, un5, Nat.zero_add, Nat.add_zero, Nat.mul_one, Nat.mul_zero, Nat.sub_zero, pk_us, pk_uLs, xoq_l, xoq_r, nI_sle, S_X11_realTime_18, hM.at, h1, h2, Nat.add_assoc]
        · rw [if_neg h5]
          simp (disch := omega) only [fa_lit, fa_litL, nI_add, pk_mul, pk_sub, nI_clamp, gi_n, gb_0, gb_1, nI_ltI, nI_leI, nI_eq, lc_lt, lc_gt, lc_ge, lc_le, lc_eq, lN_i, nI_l, lN_add, lN_mul, lN_lt, lN_le, lN_eq, mI_eqR, mI_eqL, mI_ltL, mI_ltR, mI_leL, mI_leR, mI_add, ob1_some, ob2_some, ob3_some, ob4_some, ob5_some, ob6_some, ob7_some, ob8_some, if_true, if_false, if_pos, if_neg, Sum.elim_inl, Sum.elim_inr, un1, un2, un3, un4, un5, Nat.zero_add, Nat.add_zero, Nat.mul_one, Nat.mul_zero, Nat.sub_zero, pk_us, pk_uLs, xoq_l, xoq_r, nI_sle, S_X11_realTime_18, hM.at, h1, h2]
      · simp (disch := omega) only [fa_lit, fa_litL, nI_add, pk_mul, pk_sub, nI_clamp, gi_n, gb_0, gb_1, nI_ltI, nI_leI, nI_eq, lc_lt, lc_gt, lc_ge, lc_le, lc_eq, lN_i, nI_l, lN_add, lN_mul, lN_lt, lN_le, lN_eq, mI_eqR, mI_eqL, mI_ltL, mI_ltR, mI_leL, mI_leR, mI_add, ob1_some, ob2_some, ob3_some, ob4_some, ob5_some, ob6_some, ob7_some, ob8_some, if_true, if_false, if_pos, if_neg, Sum.elim_inl, Sum.elim_inr, un1, un2, un3, un4, un5, Nat.zero_add, Nat.add_zero, Nat.mul_one, Nat.mul_zero, Nat.sub_zero, pk_us, pk_uLs, xoq_l, xoq_r, nI_sle, S_X11_realTime_18, hM.at]
    rw [ob1_s key]
end
