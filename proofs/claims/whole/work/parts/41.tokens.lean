/-! ===== the reference's tokens ===== -/
def tkd (T : Nat → Nat) (n q : Nat) : Nat := if n ≤ q then 3 else if isl T n q = true then 0 else if isd T n q = true then 1 else 2
def tbh (T : Nat → Nat) (n q : Nat) : Nat := if n ≤ q then q else if isl T n q = true then rn (isl T n) n q else if isd T n q = true then rn (isd T n) n q else q + 1
/-- the token behind p lies before the reader -/
def TKR (T : Nat → Nat) (n p : Nat) (at_ be kd : Int32) (num : Int64) : Prop :=
  p ≤ n ∧ at_ = nI (rn (iss T n) n p) ∧ be = nI (tbh T n (rn (iss T n) n p)) ∧ kd = nI (tkd T n (rn (iss T n) n p)) ∧ (tkd T n (rn (iss T n) n p) = 1 → num = lN (rnv T (rn (iss T n) n p) (rn (isd T n) n (rn (iss T n) n p) - rn (iss T n) n p)))
def RE (o : Option (Nat × Nat)) (wr wa : Int32) : Prop :=
  match o with
  | none => wr = nI 0
  | some x => 2 ≤ x.1 ∧ x.1 ≤ 4 ∧ x.2 ≤ 900 ∧ wr = -nI x.1 ∧ wa = nI x.2
section
variable {T : Nat → Nat} {n : Nat} {text : Nat → Int32}
theorem q_see (hT : TX T n text) {j : Nat} (hj : j ≤ n) : F_X11_see (nI j) (nI n) text = some (if j < n then nI (T j) else -nI 1) := by
  have hn := hT.1
  by_cases h1 : j < n
  · have h2 := (hT.2 j h1).1
    rw [if_pos h1]
    simp (disch := omega) only [fa_lit, fa_litL, nI_add, pk_mul, pk_sub, nI_clamp, gi_n, gb_0, gb_1, nI_ltI, nI_leI, nI_eq, lc_lt, lc_gt, lc_ge, lc_le, lc_eq, lN_i, nI_l, lN_add, lN_mul, lN_lt, lN_le, lN_eq, mI_eqR, mI_eqL, mI_ltL, mI_ltR, mI_leL, mI_leR, mI_add, ob1_some, ob2_some, ob3_some, ob4_some, ob5_some, ob6_some, ob7_some, ob8_some, if_true, if_false, if_pos, if_neg, Sum.elim_inl, Sum.elim_inr, un1, un2, un3, un4, un5, Nat.zero_add, Nat.add_zero, Nat.mul_one, Nat.mul_zero, Nat.sub_zero, pk_us, pk_uLs, xoq_l, xoq_r, nI_sle, F_X11_see, h2]
  · rw [if_neg h1]
    simp (disch := omega) only [fa_lit, fa_litL, nI_add, pk_mul, pk_sub, nI_clamp, gi_n, gb_0, gb_1, nI_ltI, nI_leI, nI_eq, lc_lt, lc_gt, lc_ge, lc_le, lc_eq, lN_i, nI_l, lN_add, lN_mul, lN_lt, lN_le, lN_eq, mI_eqR, mI_eqL, mI_ltL, mI_ltR, mI_leL, mI_leR, mI_add, ob1_some, ob2_some, ob3_some, ob4_some, ob5_some, ob6_some, ob7_some, ob8_some, if_true, if_false, if_pos, if_neg, Sum.elim_inl, Sum.elim_inr, un1, un2, un3, un4, un5, Nat.zero_add, Nat.add_zero, Nat.mul_one, Nat.mul_zero, Nat.sub_zero, pk_us, pk_uLs, xoq_l, xoq_r, nI_sle, F_X11_see]
theorem q_seeL (hT : TX T n text) {j : Nat} (hj : j ≤ n) : F_X11_isLetter (if j < n then nI (T j) else -nI 1) = some (bI (isl T n j = true)) := by
  have hn := hT.1
  unfold F_X11_isLetter
  simp only [fa_litL]
  rw [q_isInN _ (by omega) (by omega), ob1_some, gb_b]
  refine congrArg some (bI_c ?_)
  rw [isl_iff]
  by_cases h1 : j < n
  · have h2 := (hT.2 j h1).2
    rw [if_pos h1, nI_toInt (by omega)]
    omega
  · rw [if_neg h1, mI_toInt]
    omega
theorem q_seeD (hT : TX T n text) {j : Nat} (hj : j ≤ n) : F_X11_isDigit (if j < n then nI (T j) else -nI 1) = some (bI (isd T n j = true)) := by
  have hn := hT.1
  unfold F_X11_isDigit
  simp only [fa_litL]
  rw [q_isInN _ (by omega) (by omega), ob1_some, gb_b]
  refine congrArg some (bI_c ?_)
  rw [isd_iff]
  by_cases h1 : j < n
  · have h2 := (hT.2 j h1).2
    rw [if_pos h1, nI_toInt (by omega)]
    omega
  · rw [if_neg h1, mI_toInt]
    omega
theorem q_next (hT : TX T n text) {p : Nat} {at0 kd0 : Int32} {num0 : Int64} (hp : p ≤ n) : ∃ at_ be kd num, F_X11_next (nI n) at0 (nI p) kd0 num0 text = some (at_, be, kd, num) ∧ TKR T n p at_ be kd num := by
  have hn := hT.1
  have k1 : wh (fun k q => S_X11_next_8 (nI n) (nI p) kd0 num0 text k q) wF (nI p) = some (nI (rn (iss T n) n p)) := by
    refine run_loop hp hn iss_n (fun j hj k => ?_)
    unfold S_X11_next_8
    rw [q_see hT hj, ob1_some]
    by_cases h1 : j < n
    · have h2 := (hT.2 j h1).2
      rw [if_pos h1]
      by_cases h3 : T j = 32
      · rw [if_pos (iss_iff.mpr ⟨h1, h3⟩), h3]
        rw [if_pos (show nI 32 = (32 : Int32) from rfl)]
        exact congrArg k (nI_add j 1)
      · rw [if_neg (fun h => h3 (iss_iff.mp h).2), if_neg (show ¬ nI (T j) = (32 : Int32) from fun h => h3 ((nI_eq (b := 32) (by omega) (by omega)).mp h))]
    · rw [if_neg h1, if_neg (fun h => h1 (iss_iff.mp h).1)]
      exact if_neg (by decide)
  have hq := rn_b (P := iss T n) hp
  obtain ⟨q, hqe⟩ : ∃ q, q = rn (iss T n) n p := ⟨_, rfl⟩
  rw [← hqe] at k1 hq
  unfold F_X11_next TKR
  rw [k1, ob1_some, ← hqe]
  by_cases c1 : n ≤ q
  · rw [if_neg (fun h => by have := (nI_ltI (by omega) (by omega)).mp h; omega)]
    have e1 : tkd T n q = 3 := if_pos c1
    have e2 : tbh T n q = q := if_pos c1
    exact ⟨_, _, _, _, rfl, hp, rfl, by rw [e2], by rw [e1]; rfl, fun h => by rw [e1] at h; omega⟩
  · rw [if_pos (nI_lt (by omega) (by omega)), q_see hT hq.2, ob1_some, q_seeL hT hq.2, ob1_some]
    by_cases c2 : isl T n q = true
    · have e1 : tkd T n q = 0 := by unfold tkd; rw [if_neg c1, if_pos c2]
      have e2 : tbh T n q = rn (isl T n) n q := by unfold tbh; rw [if_neg c1, if_pos c2]
      have k2 : wh (fun k r => S_X11_next_75 (nI n) (nI q) kd0 num0 text k r) wF (nI q) = some (nI (rn (isl T n) n q)) := by
        refine run_loop hq.2 hn isl_n (fun j hj k => ?_)
        unfold S_X11_next_75
        rw [q_see hT hj, ob1_some, q_seeL hT hj, ob1_some]
        by_cases h1 : isl T n j = true
        · rw [bI_1 h1, if_pos h1]
          exact (if_neg (by decide)).trans (congrArg k (nI_add j 1))
        · rw [bI_0 h1, if_neg h1]
          exact if_pos rfl
      rw [bI_1 c2, if_neg (by decide), k2, ob1_some]
      exact ⟨_, _, _, _, rfl, hp, rfl, by rw [e2], by rw [e1]; rfl, fun h => by rw [e1] at h; omega⟩
    · rw [bI_0 c2, if_pos (show nI 0 = (0 : Int32) from rfl), ob1_some, q_seeD hT hq.2, ob1_some]
      by_cases c3 : isd T n q = true
      · have e1 : tkd T n q = 1 := by unfold tkd; rw [if_neg c1, if_neg c2, if_pos c3]
        have e2 : tbh T n q = rn (isd T n) n q := by unfold tbh; rw [if_neg c1, if_neg c2, if_pos c3]
        have hb := rn_b (P := isd T n) hq.2
        have ho := rn_out (P := isd T n) hq.2 isd_n
        have k3 : wh (fun k s => S_X11_next_129 (nI n) (nI q) kd0 text k s.1 s.2) wF (nI q, lN 0) = some (nI (rn (isd T n) n q), lN (rnv T q (rn (isd T n) n q - q))) := by
          refine whf (fun j => (nI (q + j), lN (rnv T q j))) 0 (rn (isd T n) n q - q) rfl (by omega) (by omega) (fun j _ hj k => ?_) (fun k => ?_)
          · have h1 := rn_in (P := isd T n) (n := n) (p := q) (j := q + j) (by omega) (by omega)
            have h5 := isd_iff.mp h1
            have h6 := (nv_rel (T := T) (p := q) j (fun i h7 h8 => (isd_iff.mp (rn_in (P := isd T n) (n := n) (p := q) h7 (by omega))).2)).2.1
            show S_X11_next_129 (nI n) (nI q) kd0 text k (nI (q + j)) (lN (rnv T q j)) = k (nI (q + (j + 1)), lN (rnv T q (j + 1)))
            unfold S_X11_next_129
            rw [q_see hT (by omega), ob1_some, q_seeD hT (by omega), ob1_some, bI_1 h1, if_neg (by decide), rnv_s]
            have e5 : ∀ v : Int64, F_X11_next_b180 k (nI n) (nI q) (nI (q + j)) kd0 v text = k (nI (q + (j + 1)), v) := fun v => by
              unfold F_X11_next_b180
              rw [show nI (q + j) + (1 : Int32) = nI (q + (j + 1)) from nI_add (q + j) 1]
            by_cases h7 : rnv T q j < 100000
            · have h8 : ¬ (0 : Int32) ≤ lg_cmp (lN (rnv T q j)) (100000 : Int64) := fun h => by
                have h9 : nI 0 ≤ lg_cmp (lN (rnv T q j)) (lN 100000) := h
                rw [lc_ge] at h9
                have := (lN_le (by omega) (by omega)).mp h9
                omega
              rw [if_neg h8, ob1_some, e5, if_pos h5.1, if_pos h7, nI_l (by omega)]
              have e6 : (10 : Int64) * lN (rnv T q j) + lN (T (q + j)) - (48 : Int64) = lN (10 * rnv T q j + (T (q + j) - 48)) := by
                show lN 10 * lN (rnv T q j) + lN (T (q + j)) - lN 48 = _
                rw [lN_mul, lN_add, lN_sub (by omega)]
                congr 1; omega
              rw [e6]
            · have h8 : (0 : Int32) ≤ lg_cmp (lN (rnv T q j)) (100000 : Int64) := by
                have h9 : nI 0 ≤ lg_cmp (lN (rnv T q j)) (lN 100000) := by
                  rw [lc_ge]
                  exact (lN_le (by omega) (by omega)).mpr (by omega)
                exact h9
              rw [if_pos h8, e5, if_neg h7]
          · show S_X11_next_129 (nI n) (nI q) kd0 text k (nI (q + (rn (isd T n) n q - q))) (lN (rnv T q (rn (isd T n) n q - q))) = _
            rw [show q + (rn (isd T n) n q - q) = rn (isd T n) n q by omega]
            unfold S_X11_next_129
            rw [q_see hT (by omega), ob1_some, q_seeD hT (by omega), ob1_some, bI_0 (by rw [ho]; decide)]
            exact if_pos rfl
        rw [bI_1 c3, if_neg (by decide)]
        have k3' : wh (fun k s => S_X11_next_129 (nI n) (nI q) kd0 text k s.1 s.2) wF (nI q, (0 : Int64)) = some (nI (rn (isd T n) n q), lN (rnv T q (rn (isd T n) n q - q))) := k3
        rw [k3', ob2_some]
        exact ⟨_, _, _, _, rfl, hp, rfl, by rw [e2], by rw [e1]; rfl, fun _ => rfl⟩
      · have e1 : tkd T n q = 2 := by unfold tkd; rw [if_neg c1, if_neg c2, if_neg c3]
        have e2 : tbh T n q = q + 1 := by unfold tbh; rw [if_neg c1, if_neg c2, if_neg c3]
        rw [bI_0 c3, if_pos (show nI 0 = (0 : Int32) from rfl)]
        exact ⟨_, _, _, _, rfl, hp, rfl, by rw [e2]; exact nI_add q 1, by rw [e1]; rfl, fun h => by rw [e1] at h; omega⟩
theorem q_fails {o : Option (Nat × Nat)} {wr wa : Int32} (h : RE o wr wa) {c p : Nat} (h1 : 2 ≤ c) (h2 : c ≤ 4) (h3 : p ≤ 900) : ∃ wr' wa', F_X11_fails (-nI c) (nI p) wr wa = some (wr', wa') ∧ RE (erj o c p) wr' wa' := by
  unfold F_X11_fails
  cases o with
  | none =>
    have h : wr = nI 0 := h
    subst h
    rw [if_pos (show nI 0 = (0 : Int32) from rfl)]
    refine ⟨_, _, rfl, ?_⟩
    unfold erj
    dsimp only
    rw [if_neg (by omega)]
    exact ⟨h1, h2, h3, rfl, rfl⟩
  | some x =>
    have e := h.2.2.2.1
    subst e
    rw [if_neg (show ¬ -nI x.1 = (0 : Int32) from ng_0 x.1 (by have := h.2.1; omega) h.1)]
    exact ⟨_, _, rfl, h⟩
theorem RE.no {o : Option (Nat × Nat)} {wr wa : Int32} (h : RE o wr wa) (hn : o ≠ none) : ¬ wr = (0 : Int32) := by
  cases o with
  | none => exact absurd rfl hn
  | some x =>
    have e := h.2.2.2.1
    rw [e]
    exact ng_0 x.1 (by have := h.2.1; omega) h.1
/-- the reference takes a number -/
theorem q_takes (hT : TX T n text) {p lo hi : Nat} {at_ be kd wa : Int32} {num : Int64} (hK : TKR T n p at_ be kd num) (hlo : lo ≤ hi) (hhi : hi ≤ 9999) :
    ∃ r at' be' kd' wr' wa' num', F_X11_takes (nI lo) (nI hi) (nI n) at_ be kd (nI 0) wa num text = some (r, at', be', kd', wr', wa', num') ∧ RE (erj none (nrc T n lo hi p) (rn (iss T n) n p)) wr' wa' ∧ (nrc T n lo hi p = 0 → r = nI (nvl T n lo hi p) ∧ TKR T n (nend T n p) at' be' kd' num') ∧ (nrc T n lo hi p ≠ 0 → r = nI 0) := by
  have hn := hT.1
  obtain ⟨hp, k1, k2, k3, k4⟩ := hK
  have hq := rn_b (P := iss T n) hp
  obtain ⟨q, hqe⟩ : ∃ q, q = rn (iss T n) n p := ⟨_, rfl⟩
  have hb := rn_b (P := isd T n) (n := n) (p := q) (by omega)
  unfold nvl nrc nend
  rw [← hqe] at k1 k2 k3 k4 hq ⊢
  subst k1; subst k2; subst k3
  -- from an error on
  have err : ∀ c, 2 ≤ c → c ≤ 4 → ∃ r at' be' kd' wr' wa' num', F_X11_takes_b51 (nI n) (nI q) (nI (tbh T n q)) (nI (tkd T n q)) (-nI c) (nI q) num text = some (r, at', be', kd', wr', wa', num') ∧ RE (some (c, q)) wr' wa' ∧ r = nI 0 := fun c h1 h2 => by
    have h3 : ¬ -nI c = (0 : Int32) := ng_0 c (by omega) h1
    unfold F_X11_takes_b51
    rw [if_neg h3]
    unfold F_X11_takes_b67
    rw [if_neg h3]
    exact ⟨_, _, _, _, _, _, _, rfl, ⟨h1, h2, by show q ≤ 900; omega, rfl, rfl⟩, rfl⟩
  unfold F_X11_takes
  rw [if_pos (show nI 0 = (0 : Int32) from rfl)]
  by_cases c1 : tkd T n q = 1
  · have d0 : q < n := by
      rcases Nat.lt_or_ge q n with h | h
      · exact h
      · unfold tkd at c1; rw [if_pos h] at c1; omega
    have d1 : isd T n q = true := by
      unfold tkd at c1
      rw [if_neg (by omega)] at c1
      by_cases h : isl T n q = true
      · rw [if_pos h] at c1; omega
      · rw [if_neg h] at c1
        by_cases h2 : isd T n q = true
        · exact h2
        · rw [if_neg h2] at c1; omega
    have d2 : ¬ isl T n q = true := fun h => by
      have a1 := (isl_iff.mp h).2
      have a2 := (isd_iff.mp d1).2
      omega
    have d3 : tbh T n q = rn (isd T n) n q := by unfold tbh; rw [if_neg (by omega), if_neg d2, if_pos d1]
    have d4 : ¬ rn (isd T n) n q = q := fun h => by
      have := rn_out (P := isd T n) (n := n) (p := q) (by omega) isd_n
      rw [h, d1] at this
      cases this
    have d5 := nv_rel (T := T) (p := q) (rn (isd T n) n q - q) (fun i h7 h8 => (isd_iff.mp (rn_in (P := isd T n) (n := n) (p := q) h7 (by omega))).2)
    have d6 := k4 c1
    subst d6
    have d7 : nbr T n q = cnv T q (rn (isd T n) n q - q) := rfl
    rw [if_pos (show nI (tkd T n q) = (1 : Int32) from congrArg nI c1), if_neg d4]
    unfold F_X11_takes_b24
    rw [if_pos (show nI 0 = (0 : Int32) from rfl), nI_l (by omega), nI_l (by omega), q_isInK (by omega) (by omega) (by omega), ob1_some]
    generalize rnv T q (rn (isd T n) n q - q) = rv at *
    rw [← d7] at d5
    by_cases c2 : nbr T n q < lo ∨ hi < nbr T n q
    · rw [if_pos c2, bI_0 (by omega), if_pos (show nI 0 = (0 : Int32) from rfl)]
      obtain ⟨r, at', be', kd', wr', wa', num', g1, g2, g3⟩ := err 3 (by omega) (by omega)
      refine ⟨r, at', be', kd', wr', wa', num', ?_, g2, fun h => by omega, fun _ => g3⟩
      unfold F_X11_fails
      rw [if_pos (show nI 0 = (0 : Int32) from rfl)]
      exact g1
    · rw [if_neg c2, bI_1 (by omega), if_neg (by decide)]
      obtain ⟨at', be', kd', num', g1, g2⟩ := q_next hT (p := rn (isd T n) n q) (at0 := nI q) (kd0 := nI (tkd T n q)) (num0 := lN rv) hb.2
      refine ⟨nI (nbr T n q), at', be', kd', nI 0, wa, num', ?_, rfl, fun _ => ⟨by rw [if_pos rfl], g2⟩, fun h => absurd rfl h⟩
      unfold F_X11_takes_b51 F_X11_takes_b67
      rw [if_pos (show nI 0 = (0 : Int32) from rfl), if_pos (show nI 0 = (0 : Int32) from rfl), d3, g1, lN_i]
      rw [show rv = nbr T n q by omega]
      rfl
  · rw [if_neg (show ¬ nI (tkd T n q) = (1 : Int32) from fun h => c1 ((nI_eq (b := 1) (by unfold tkd; split <;> (try split) <;> (try split) <;> omega) (by omega)).mp h))]
    have d4 : rn (isd T n) n q = q := by
      have hno : isd T n q = false := by
        rcases h : isd T n q with _ | _
        · rfl
        · exfalso
          apply c1
          have a2 := isd_iff.mp h
          unfold tkd
          rw [if_neg (by omega), if_neg (fun h3 => by have := (isl_iff.mp h3).2; omega), if_pos h]
      rcases Nat.lt_or_ge q (rn (isd T n) n q) with h | h
      · have := rn_in (P := isd T n) (n := n) (p := q) (j := q) (Nat.le_refl _) h
        rw [hno] at this; cases this
      · omega
    rw [if_pos d4]
    obtain ⟨r, at', be', kd', wr', wa', num', g1, g2, g3⟩ := err 2 (by omega) (by omega)
    refine ⟨r, at', be', kd', wr', wa', num', ?_, g2, fun h => by omega, fun _ => g3⟩
    unfold F_X11_fails
    rw [if_pos (show nI 0 = (0 : Int32) from rfl)]
    exact g1
theorem q_takesErr {o : Option (Nat × Nat)} {wr wa x1 x2 at_ be kd : Int32} {num : Int64} (hE : RE o wr wa) (ho : o ≠ none) : F_X11_takes x1 x2 (nI n) at_ be kd wr wa num text = some (nI 0, at_, be, kd, wr, wa, num) := by
  have h1 := hE.no ho
  unfold F_X11_takes F_X11_takes_b24 F_X11_takes_b51 F_X11_takes_b67
  rw [if_neg h1, if_neg h1, if_neg h1, if_neg h1]
  rfl
/-! the semicolon -/
def smc (T : Nat → Nat) (n p : Nat) : Nat := if rn (iss T n) n p < n ∧ T (rn (iss T n) n p) = 59 then 0 else 2
theorem p_semi (hT : TX T n text) {p : Nat} {o : Option (Nat × Nat)} {ec ea : Int32} (hE : ER o ec ea) (hp : p ≤ n) : ∃ ec' ea' r, F_X5_readSemicolon ec ea (nI n) (nI p) text = some (ec', ea', nI r) ∧ r ≤ n ∧ ER (erj o (smc T n p) (rn (iss T n) n p)) ec' ea' ∧ (smc T n p = 0 → r = rn (iss T n) n p + 1) := by
  have hn := hT.1
  have hq := rn_b (P := iss T n) hp
  unfold F_X5_readSemicolon smc
  rw [p_skipSpaces hT hp, ob1_some]
  generalize rn (iss T n) n p = q at *
  obtain ⟨ec', ea', g1, g2⟩ := p_fail hE (c := 2) (p := q) (by omega) (by omega) (by omega)
  have g3 : F_X5_readSemicolon_b42 ec ea (nI q) = some (ec', ea', nI q) := by
    unfold F_X5_readSemicolon_b42
    simp only [fa_lit]
    rw [g1, ob2_some]
  by_cases c1 : q < n
  · have h2 := hT.2 q c1
    rw [if_neg (fun h => by have := (nI_leI (by omega) (by omega)).mp h; omega), gi_n (by omega) (by omega), nI_clamp (by omega), h2.1]
    by_cases c2 : T q = 59
    · rw [if_pos (show nI (T q) = (59 : Int32) by rw [c2]; rfl), if_pos ⟨c1, c2⟩]
      refine ⟨ec, ea, q + 1, by rw [show nI q + (1 : Int32) = nI (q + 1) from nI_add q 1], by omega, ?_, fun _ => rfl⟩
      unfold erj
      cases o with
      | none => exact hE
      | some x => exact hE
    · rw [if_neg (show ¬ nI (T q) = (59 : Int32) from fun h => c2 ((nI_eq (b := 59) (by omega) (by omega)).mp h)), if_neg (fun h => c2 h.2), g3]
      exact ⟨ec', ea', q, rfl, by omega, g2, fun h => by omega⟩
  · rw [if_pos (nI_le (by omega) (by omega)), if_neg (fun h => c1 h.1), g3]
    exact ⟨ec', ea', q, rfl, by omega, g2, fun h => by omega⟩
theorem q_semi (hT : TX T n text) {p : Nat} {at_ be kd wa : Int32} {num : Int64} (hK : TKR T n p at_ be kd num) : ∃ b at' be' kd' wr' wa' num', F_X11_isSign (59 : Int32) at_ kd (nI 0) text = some b ∧ F_X11_must b (nI n) at_ be kd (nI 0) wa num text = some (at', be', kd', wr', wa', num') ∧ RE (erj none (smc T n p) (rn (iss T n) n p)) wr' wa' ∧ (smc T n p = 0 → TKR T n (rn (iss T n) n p + 1) at' be' kd' num') := by
  have hn := hT.1
  obtain ⟨hp, k1, k2, k3, k4⟩ := hK
  have hq := rn_b (P := iss T n) hp
  unfold smc
  generalize rn (iss T n) n p = q at *
  subst k1; subst k2; subst k3
  have hk : tkd T n q < 4 := by unfold tkd; split <;> (try split) <;> (try split) <;> omega
  unfold F_X11_isSign
  rw [if_pos (show nI 0 = (0 : Int32) from rfl)]
  have bad : ¬ (q < n ∧ T q = 59) → ∃ at' be' kd' wr' wa' num', F_X11_must (nI 0) (nI n) (nI q) (nI (tbh T n q)) (nI (tkd T n q)) (nI 0) wa num text = some (at', be', kd', wr', wa', num') ∧ RE (some (2, q)) wr' wa' := fun _ => by
    unfold F_X11_must F_X11_fails F_X11_must_b10
    rw [if_pos (show nI 0 = (0 : Int32) from rfl), if_pos (show nI 0 = (0 : Int32) from rfl), ob2_some, if_neg (by decide)]
    exact ⟨_, _, _, _, _, _, rfl, by omega, by omega, by show q ≤ 900; omega, rfl, rfl⟩
  by_cases c1 : q < n ∧ T q = 59
  · have e0 : ¬ isl T n q = true := fun h => by have := (isl_iff.mp h).2; omega
    have e1 : ¬ isd T n q = true := fun h => by have := (isd_iff.mp h).2; omega
    have e2 : tkd T n q = 2 := by unfold tkd; rw [if_neg (by omega), if_neg e0, if_neg e1]
    have e3 : tbh T n q = q + 1 := by unfold tbh; rw [if_neg (by omega), if_neg e0, if_neg e1]
    obtain ⟨at', be', kd', num', g1, g2⟩ := q_next hT (p := q + 1) (at0 := nI q) (kd0 := nI (tkd T n q)) (num0 := num) (by omega)
    have h2 := (hT.2 q c1.1).1
    refine ⟨nI 1, at', be', kd', nI 0, wa, num', ?_, ?_, ?_, fun _ => g2⟩
    · rw [if_pos (show nI (tkd T n q) = (2 : Int32) by rw [e2]; rfl), gi_n (by omega) (by omega), nI_clamp (by omega), h2, c1.2]
      rfl
    · unfold F_X11_must F_X11_must_b10
      rw [if_neg (by decide), if_pos (show nI 0 = (0 : Int32) from rfl), e3, g1]
      rfl
    · rw [if_pos c1]; rfl
  · obtain ⟨at', be', kd', wr', wa', num', g1, g2⟩ := bad c1
    refine ⟨nI 0, at', be', kd', wr', wa', num', ?_, g1, by rw [if_neg c1]; exact g2, fun h => by rw [if_neg c1] at h; omega⟩
    by_cases c2 : tkd T n q = 2
    · have d0 : q < n := by
        rcases Nat.lt_or_ge q n with h | h
        · exact h
        · unfold tkd at c2; rw [if_pos h] at c2; omega
      have h2 := hT.2 q d0
      rw [if_pos (show nI (tkd T n q) = (2 : Int32) by rw [c2]; rfl), gi_n (by omega) (by omega), nI_clamp (by omega), h2.1, if_neg (show ¬ nI (T q) = (59 : Int32) from fun h => c1 ⟨d0, (nI_eq (b := 59) (by omega) (by omega)).mp h⟩)]
      rfl
    · rw [if_neg (show ¬ nI (tkd T n q) = (2 : Int32) from fun h => c2 ((nI_eq (b := 2) (by omega) (by omega)).mp h))]
      rfl
end
