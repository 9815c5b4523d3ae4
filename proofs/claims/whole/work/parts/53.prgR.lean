/-! ===== the program, by the reference; a fresh show ===== -/
def A0f : Nat → Nat := fun j => if j = 0 then 60 else if j = 1 then 600 else if j = 2 then 2 else if j = 3 then 40 else if j = 4 then 5 else if j = 5 then 30 else 0
theorem A0_z {j : Nat} (h : 6 ≤ j) : A0f j = 0 := by
  unfold A0f
  rw [if_neg (by omega), if_neg (by omega), if_neg (by omega), if_neg (by omega), if_neg (by omega), if_neg (by omega)]
theorem A0_VP : VP A0f := by
  have z : ∀ j, 6 ≤ j → A0f j = 0 := fun j => A0_z
  refine ⟨⟨⟨by decide, by decide, by decide, by decide, by decide, by decide, by rw [z 6 (by omega)]; omega, by rw [z 7 (by omega)]; omega, by rw [z 8 (by omega)]; omega⟩, ⟨fun s hs => ?_, fun s hs => ?_, fun s t hs => ?_⟩, ⟨fun i hi => ?_, fun i j _ hj => ?_⟩, ⟨by rw [z 409 (by omega)]; omega, by rw [z 410 (by omega)]; omega, fun s hs => ?_⟩, fun w hw => ?_⟩, by rw [z 9 (by omega), z 6 (by omega)], fun s hs => ?_, z 409 (by omega), z 410 (by omega), fun s _ _ => z _ (by omega)⟩
  · rw [z 6 (by omega)] at hs; omega
  · rw [z 6 (by omega)] at hs; omega
  · rw [z 6 (by omega)] at hs; omega
  · rw [z 8 (by omega)] at hi; omega
  · rw [z 8 (by omega)] at hj; omega
  · rw [z 410 (by omega)] at hs; omega
  · rw [z 7 (by omega)] at hw; omega
  · rw [z 6 (by omega)] at hs; omega
theorem A0_TR {ord dur pau siz wor : Nat → Int32} {nam : Nat → Int64} : TR A0f (nI 0) (nI 0) ord dur pau siz wor nam := by
  have z6 : A0f 6 = 0 := A0_z (by omega)
  have z7 : A0f 7 = 0 := A0_z (by omega)
  unfold TR
  rw [z6, z7]
  exact ⟨rfl, rfl, fun s hs => absurd hs (Nat.not_lt_zero s), fun s hs => absurd hs (Nat.not_lt_zero s)⟩
theorem A0_QR {wi le re : Nat → Int32} : QR A0f (nI 0) wi le re := by
  have z8 : A0f 8 = 0 := A0_z (by omega)
  unfold QR
  rw [z8]
  exact ⟨rfl, fun s hs => absurd hs (Nat.not_lt_zero s)⟩
theorem A0_KR {n tot : Int32} {r s d : Nat → Int32} : KR A0f (nI 0) n tot r s d := by
  have z : A0f 409 = 0 := A0_z (by omega)
  unfold KR
  rw [z]
  exact ⟨rfl, fun h => absurd h (by omega)⟩
theorem A0_SR {set : Nat → Int32} : SR A0f (va_cpy gq_first set (0 : Int32).toNatClampNeg (0 : Int32).toNatClampNeg (6 : Int32).toNatClampNeg) := by
  intro k hk
  rw [cl_6, cpy_at hk]
  rcases (show k = 0 ∨ k = 1 ∨ k = 2 ∨ k = 3 ∨ k = 4 ∨ k = 5 by omega) with h | h | h | h | h | h <;> subst h <;> rfl
theorem q_begins {fr : Nat → Int64} : ∃ fr', F_X11_begins fr = some fr' ∧ MR A0f fr' := by
  obtain ⟨k1, f1, f2⟩ : ∃ k1, wh (fun k q => S_X11_begins_2 k q.1 q.2) wF ((0 : Int32), fr) = some k1 ∧ ∀ j, j < 499 → k1 j = lN 0 := by
    refine wh_up 499 (by omega) (fun (j : Nat) (q : Int32 × (Nat → Int64)) => q.1 = nI j ∧ ∀ i, i < j → q.2 i = lN 0) (fun (o : Option (((Nat → Int64)))) => ∃ k1, o = some k1 ∧ ∀ j, j < 499 → k1 j = lN 0) (fun j q hj hI k hk => ?_) (Nat.zero_le _) ⟨rfl, fun k h => absurd h (Nat.not_lt_zero k)⟩
    obtain ⟨l, P⟩ := q
    obtain ⟨e1, e2⟩ := hI
    have e1 : l = nI j := e1
    subst e1
    have e2 : ∀ i, i < j → P i = lN 0 := e2
    by_cases hlt : j < 499
    · have h9 := hk hlt (nI (j + 1), vp_updL P j (lN 0)) ⟨rfl, fun i hi => ?_⟩
      · simp (disch := omega) only [fa_lit, fa_litL, nI_add, pk_mul, pk_sub, nI_clamp, gi_n, gb_0, gb_1, nI_ltI, nI_leI, nI_eq, lc_lt, lc_gt, lc_ge, lc_le, lc_eq, lN_i, nI_l, lN_add, lN_mul, lN_lt, lN_le, lN_eq, mI_eqR, mI_eqL, mI_ltL, mI_ltR, mI_leL, mI_leR, mI_add, ob1_some, ob2_some, ob3_some, ob4_some, ob5_some, ob6_some, ob7_some, ob8_some, if_true, if_false, if_pos, if_neg, Sum.elim_inl, Sum.elim_inr, un1, un2, un3, un4, un5, Nat.zero_add, Nat.add_zero, Nat.mul_one, Nat.mul_zero, Nat.sub_zero, pk_us, pk_uLs, xoq_l, xoq_r, nI_sle, S_X11_begins_2]
        exact h9
      · show vp_updL P j _ i = _
        by_cases h0 : i = j
        · subst h0; exact pk_uLs
        · rw [pk_uLn h0]; exact e2 i (by omega)
    · refine ⟨P, ?_, fun i hi => e2 i (by omega)⟩
      simp (disch := omega) only [fa_lit, fa_litL, nI_add, pk_mul, pk_sub, nI_clamp, gi_n, gb_0, gb_1, nI_ltI, nI_leI, nI_eq, lc_lt, lc_gt, lc_ge, lc_le, lc_eq, lN_i, nI_l, lN_add, lN_mul, lN_lt, lN_le, lN_eq, mI_eqR, mI_eqL, mI_ltL, mI_ltR, mI_leL, mI_leR, mI_add, ob1_some, ob2_some, ob3_some, ob4_some, ob5_some, ob6_some, ob7_some, ob8_some, if_true, if_false, if_pos, if_neg, Sum.elim_inl, Sum.elim_inr, un1, un2, un3, un4, un5, Nat.zero_add, Nat.add_zero, Nat.mul_one, Nat.mul_zero, Nat.sub_zero, pk_us, pk_uLs, xoq_l, xoq_r, nI_sle, S_X11_begins_2]
  unfold F_X11_begins
  rw [ob1_s f1]
  simp (disch := omega) only [fa_lit, fa_litL, nI_add, pk_mul, pk_sub, nI_clamp, gi_n, gb_0, gb_1, nI_ltI, nI_leI, nI_eq, lc_lt, lc_gt, lc_ge, lc_le, lc_eq, lN_i, nI_l, lN_add, lN_mul, lN_lt, lN_le, lN_eq, mI_eqR, mI_eqL, mI_ltL, mI_ltR, mI_leL, mI_leR, mI_add, ob1_some, ob2_some, ob3_some, ob4_some, ob5_some, ob6_some, ob7_some, ob8_some, if_true, if_false, if_pos, if_neg, Sum.elim_inl, Sum.elim_inr, un1, un2, un3, un4, un5, Nat.zero_add, Nat.add_zero, Nat.mul_one, Nat.mul_zero, Nat.sub_zero, pk_us, pk_uLs, xoq_l, xoq_r, nI_sle]
  refine ⟨_, rfl, fun k hk => ?_⟩
  by_cases h5 : k = 5
  · subst h5; rw [pk_uLs]; rfl
  rw [pk_uLn h5]
  by_cases h4 : k = 4
  · subst h4; rw [pk_uLs]; rfl
  rw [pk_uLn h4]
  by_cases h3 : k = 3
  · subst h3; rw [pk_uLs]; rfl
  rw [pk_uLn h3]
  by_cases h2 : k = 2
  · subst h2; rw [pk_uLs]; rfl
  rw [pk_uLn h2]
  by_cases h1 : k = 1
  · subst h1; rw [pk_uLs]; rfl
  rw [pk_uLn h1]
  by_cases h0 : k = 0
  · subst h0; rw [pk_uLs]; rfl
  rw [pk_uLn h0, f2 k hk, A0_z (by omega)]
theorem q_becomes {A : Nat → Nat} {a fr : Nat → Int64} (hM : MR A fr) : ∃ a', F_X11_becomes a fr = some a' ∧ MR A a' := by
  obtain ⟨k1, f1, f2⟩ : ∃ k1, wh (fun k q => S_X11_becomes_2 fr k q.1 q.2) wF ((0 : Int32), a) = some k1 ∧ MR A k1 := by
    refine wh_up 499 (by omega) (fun (j : Nat) (q : Int32 × (Nat → Int64)) => q.1 = nI j ∧ ∀ i, i < j → q.2 i = lN (A i)) (fun (o : Option (((Nat → Int64)))) => ∃ k1, o = some k1 ∧ MR A k1) (fun j q hj hI k hk => ?_) (Nat.zero_le _) ⟨rfl, fun k h => absurd h (Nat.not_lt_zero k)⟩
    obtain ⟨l, P⟩ := q
    obtain ⟨e1, e2⟩ := hI
    have e1 : l = nI j := e1
    subst e1
    have e2 : ∀ i, i < j → P i = lN (A i) := e2
    by_cases hlt : j < 499
    · have h1 := hM j hlt
      have h9 := hk hlt (nI (j + 1), vp_updL P j (lN (A j))) ⟨rfl, fun i hi => ?_⟩
      · simp (disch := omega) only [fa_lit, fa_litL, nI_add, pk_mul, pk_sub, nI_clamp, gi_n, gb_0, gb_1, nI_ltI, nI_leI, nI_eq, lc_lt, lc_gt, lc_ge, lc_le, lc_eq, lN_i, nI_l, lN_add, lN_mul, lN_lt, lN_le, lN_eq, mI_eqR, mI_eqL, mI_ltL, mI_ltR, mI_leL, mI_leR, mI_add, ob1_some, ob2_some, ob3_some, ob4_some, ob5_some, ob6_some, ob7_some, ob8_some, if_true, if_false, if_pos, if_neg, Sum.elim_inl, Sum.elim_inr, un1, un2, un3, un4, un5, Nat.zero_add, Nat.add_zero, Nat.mul_one, Nat.mul_zero, Nat.sub_zero, pk_us, pk_uLs, xoq_l, xoq_r, nI_sle, S_X11_becomes_2, h1]
        exact h9
      · show vp_updL P j _ i = _
        by_cases h0 : i = j
        · subst h0; exact pk_uLs
        · rw [pk_uLn h0]; exact e2 i (by omega)
    · refine ⟨P, ?_, fun i hi => e2 i (by omega)⟩
      simp (disch := omega) only [fa_lit, fa_litL, nI_add, pk_mul, pk_sub, nI_clamp, gi_n, gb_0, gb_1, nI_ltI, nI_leI, nI_eq, lc_lt, lc_gt, lc_ge, lc_le, lc_eq, lN_i, nI_l, lN_add, lN_mul, lN_lt, lN_le, lN_eq, mI_eqR, mI_eqL, mI_ltL, mI_ltR, mI_leL, mI_leR, mI_add, ob1_some, ob2_some, ob3_some, ob4_some, ob5_some, ob6_some, ob7_some, ob8_some, if_true, if_false, if_pos, if_neg, Sum.elim_inl, Sum.elim_inr, un1, un2, un3, un4, un5, Nat.zero_add, Nat.add_zero, Nat.mul_one, Nat.mul_zero, Nat.sub_zero, pk_us, pk_uLs, xoq_l, xoq_r, nI_sle, S_X11_becomes_2]
  unfold F_X11_becomes
  rw [ob1_s f1]
  exact ⟨_, rfl, f2⟩
section
variable {T : Nat → Nat} {n : Nat} {text : Nat → Int32}
def OKQ (R : Option (Nat × Nat) × (Nat → Nat)) (o : Option (Int32 × Int32 × Int32 × Int32 × Int32 × Int64 × (Nat → Int64))) : Prop := ∃ at_ be kd wr wa num fr, o = some (at_, be, kd, wr, wa, num, fr) ∧ RE R.1 wr wa ∧ (R.1 = none → MR R.2 fr)
theorem tkd_3 {q : Nat} : (nI (tkd T n q) = (3 : Int32)) = (n ≤ q) := by
  refine propext ⟨fun h => ?_, fun h => ?_⟩
  · by_cases c : n ≤ q
    · exact c
    · have h1 : tkd T n q < 3 := by
        unfold tkd
        rw [if_neg c]
        split
        · omega
        · split <;> omega
      have := (nI_eq (a := tkd T n q) (b := 3) (by omega) (by omega)).mp h
      omega
  · unfold tkd
    rw [if_pos h]
    rfl
theorem q_prgLoop (hT : TX T n text) {km th bu ea : Int32} {a0 kp : Nat → Int64} {R : Option (Nat × Nat) × (Nat → Nat)} : ∀ (N m : Nat) (q : Int32 × Int32 × Int32 × Int32 × Int32 × Int64 × (Nat → Int64)), ((∃ e, R.1 = some e ∧ RE (some e) q.2.2.2.1 q.2.2.2.2.1) ∨ ∃ A p, VP A ∧ q.2.2.2.1 = nI 0 ∧ TKR T n p q.1 q.2.1 q.2.2.1 q.2.2.2.2.2.1 ∧ MR A q.2.2.2.2.2.2 ∧ R = prg T n m A p ∧ n + 1 - p ≤ m) → m < N → OKQ R (wh (fun k (q : Int32 × Int32 × Int32 × Int32 × Int32 × Int64 × (Nat → Int64)) => S_X11_load_60 km th bu (nI n) ea a0 kp text k q.1 q.2.1 q.2.2.1 q.2.2.2.1 q.2.2.2.2.1 q.2.2.2.2.2.1 q.2.2.2.2.2.2) N q) := by
  have hn := hT.1
  refine wh_inv (step := fun k (q : Int32 × Int32 × Int32 × Int32 × Int32 × Int64 × (Nat → Int64)) => S_X11_load_60 km th bu (nI n) ea a0 kp text k q.1 q.2.1 q.2.2.1 q.2.2.2.1 q.2.2.2.2.1 q.2.2.2.2.2.1 q.2.2.2.2.2.2) (fun m (q : Int32 × Int32 × Int32 × Int32 × Int32 × Int64 × (Nat → Int64)) => (∃ e, R.1 = some e ∧ RE (some e) q.2.2.2.1 q.2.2.2.2.1) ∨ ∃ A p, VP A ∧ q.2.2.2.1 = nI 0 ∧ TKR T n p q.1 q.2.1 q.2.2.1 q.2.2.2.2.2.1 ∧ MR A q.2.2.2.2.2.2 ∧ R = prg T n m A p ∧ n + 1 - p ≤ m) (fun (o : Option (Int32 × Int32 × Int32 × Int32 × Int32 × Int64 × (Nat → Int64))) => OKQ R o) (fun m q hI k hk => ?_)
  obtain ⟨at_, be, kd, wr, wa, num, fr⟩ := q
  show OKQ R (S_X11_load_60 km th bu (nI n) ea a0 kp text k at_ be kd wr wa num fr)
  unfold S_X11_load_60
  rcases hI with ⟨e, g1, g2⟩ | ⟨A, p, g1, g2, g3, g4, g5, g6⟩
  · have g2 : RE (some e) wr wa := g2
    rw [if_neg (RE.no g2 (by intro h; cases h))]
    exact ⟨_, _, _, _, _, _, _, rfl, by rw [g1]; exact g2, fun h => by rw [g1] at h; cases h⟩
  · have g2 : wr = nI 0 := g2
    have g4 : MR A fr := g4
    subst g2
    have hK : TKR T n p at_ be kd num := g3
    obtain ⟨hp, k1, k2, k3, k4⟩ := g3
    have k1 : at_ = nI (rn (iss T n) n p) := k1
    have k2 : be = nI (tbh T n (rn (iss T n) n p)) := k2
    have k3 : kd = nI (tkd T n (rn (iss T n) n p)) := k3
    subst k1; subst k2; subst k3
    have hq := rn_b (P := iss T n) hp
    rw [if_pos (show nI 0 = (0 : Int32) from rfl)]
    by_cases c1 : n ≤ rn (iss T n) n p
    · rw [if_pos (tkd_3.mpr c1)]
      rw [prg_end c1] at g5
      rw [g5]
      exact ⟨_, _, _, _, _, _, _, rfl, rfl, fun _ => g4⟩
    · rw [if_neg (fun h => c1 (tkd_3.mp h))]
      obtain ⟨m, rfl⟩ : ∃ m', m = m' + 1 := ⟨m - 1, by omega⟩
      rw [prg_s, if_neg c1] at g5
      have hso := sem_ok (T := T) g1 hq.2 hn
      have fin : ∀ at' be' kd' wr' wa' num' fr', RE (sem T n (stm T n A (rn (iss T n) n p))).1 wr' wa' → ((sem T n (stm T n A (rn (iss T n) n p))).1 = none → TKR T n (sem T n (stm T n A (rn (iss T n) n p))).2.2 at' be' kd' num' ∧ MR (sem T n (stm T n A (rn (iss T n) n p))).2.1 fr') → OKQ R (k (at', be', kd', wr', wa', num', fr')) := by
        intro at' be' kd' wr' wa' num' fr' j1 j2
        generalize sem T n (stm T n A (rn (iss T n) n p)) = X at *
        by_cases c2 : X.1 = none
        · have h9 := hso c2
          rw [if_pos (by rw [c2]; rfl)] at g5
          rw [c2] at j1
          have j1 : wr' = nI 0 := j1
          subst j1
          have j3 := j2 c2
          exact hk m _ (by omega) (Or.inr ⟨X.2.1, X.2.2, h9.1, rfl, j3.1, j3.2, g5, by omega⟩)
        · obtain ⟨e, he⟩ : ∃ e, X.1 = some e := by
            cases hx : X.1 with
            | none => exact absurd hx c2
            | some e => exact ⟨e, rfl⟩
          rw [if_neg (by rw [he]; exact Bool.false_ne_true)] at g5
          rw [he] at j1
          exact hk m _ (by omega) (Or.inl ⟨e, by rw [g5]; exact he, j1⟩)
      have rs : ∀ o : Option (Int32 × Int32 × Int32 × Int32 × Int32 × Int64 × (Nat → Int64)), RS T n (sem T n (stm T n A (rn (iss T n) n p))) o → OKQ R (ob7 o (fun x0 x1 x2 x3 x4 x5 x6 => k (x0, x1, x2, x3, x4, x5, x6))) := by
        intro o ho
        obtain ⟨at', be', kd', wr', wa', num', fr', j1, j2, j3⟩ := ho
        rw [ob7_s j1]
        exact fin _ _ _ _ _ _ _ j2 j3
      have rsF : ∀ o : Option (Int32 × Int32 × Int32 × Int32 × Int32 × Int64 × (Nat → Int64)), RS T n (some (4, rn (iss T n) n p), A, rn (iss T n) n p) o → stm T n A (rn (iss T n) n p) = (some (4, rn (iss T n) n p), A, rn (iss T n) n p) → RS T n (sem T n (stm T n A (rn (iss T n) n p))) o := by
        intro o ho he
        obtain ⟨at', be', kd', wr', wa', num', fr', j1, j2, j3⟩ := ho
        rw [he]
        exact ⟨at', be', kd', wr', wa', num', fr', j1, j2, fun h => by cases h⟩
      rw [q_isSeg hT hq.2, ob1_some]
      by_cases d1 : wrd T n (rn (iss T n) n p) = 19623
      · rw [bI_1 d1, if_neg (show ¬ nI 1 = (0 : Int32) by decide)]
        refine rs _ ?_
        by_cases d2 : A 6 = 32
        · exact rsF _ (q_segF hT g4 hK rfl d2) (by unfold stm; rw [if_pos d1, if_pos d2])
        · have := q_segS (wa := wa) hT g4 g1 hK rfl d1 d2
          have e : stm T n A (rn (iss T n) n p) = sg1 T n A (rn (isl T n) n (rn (iss T n) n p)) := by unfold stm; rw [if_pos d1, if_neg d2]
          rw [e]
          exact this
      · rw [bI_0 d1, if_pos (show nI 0 = (0 : Int32) from rfl), q_isSlot0 hT hq.2, ob1_some]
        by_cases d2 : wrd T n (rn (iss T n) n p) = 635380
        · rw [bI_1 d2, if_neg (show ¬ nI 1 = (0 : Int32) by decide)]
          refine rs _ ?_
          by_cases d3 : A 8 = 5
          · exact rsF _ (q_slotF hT g4 g1 hK rfl d3) (by unfold stm; rw [if_neg d1, if_pos d2, if_pos d3])
          · have := q_slotS (wa := wa) hT g4 g1 hK rfl d2 d3
            have e : stm T n A (rn (iss T n) n p) = sl1 T n A (rn (isl T n) n (rn (iss T n) n p)) := by unfold stm; rw [if_neg d1, if_pos d2, if_neg d3]
            rw [e]
            exact this
        · rw [bI_0 d2, if_pos (show nI 0 = (0 : Int32) from rfl), q_isSet hT hq.2, ob1_some]
          by_cases d3 : wrd T n (rn (iss T n) n p) = 19636
          · rw [bI_1 d3, if_neg (show ¬ nI 1 = (0 : Int32) by decide)]
            refine rs _ ?_
            have := q_setting (wa := wa) hT g4 g1 hK rfl d3
            have e : stm T n A (rn (iss T n) n p) = se1 T n A (rn (isl T n) n (rn (iss T n) n p)) := by unfold stm; rw [if_neg d1, if_neg d2, if_pos d3]
            rw [e]
            exact this
          · rw [bI_0 d3, if_pos (show nI 0 = (0 : Int32) from rfl)]
            have e : stm T n A (rn (iss T n) n p) = (some (2, rn (iss T n) n p), A, rn (iss T n) n p) := by unfold stm; rw [if_neg d1, if_neg d2, if_neg d3]
            obtain ⟨wr', wa', f1, f2⟩ := q_fails (o := none) (wr := nI 0) (wa := wa) rfl (c := 2) (p := rn (iss T n) n p) (by omega) (by omega) (by omega)
            have f1 : F_X11_fails (-2 : Int32) (nI (rn (iss T n) n p)) (nI 0) wa = some (wr', wa') := f1
            rw [f1, ob2_some]
            refine fin _ _ _ _ _ _ _ ?_ ?_
            · rw [e]; exact f2
            · rw [e]; exact fun h => by cases h
/-- the whole text, from a fresh show -/
def prgA (T : Nat → Nat) (n : Nat) : Option (Nat × Nat) × (Nat → Nat) := prg T n (n + 1) A0f 0
theorem prgA_VP (hn : n ≤ 900) (h : (prgA T n).1 = none) : VP (prgA T n).2 := prg_ok (n + 1) A0f 0 A0_VP (Nat.zero_le _) hn h
end
