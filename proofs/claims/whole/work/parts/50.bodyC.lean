/-! ===== the statements' bodies, by the class ===== -/
section
variable {T : Nat → Nat} {n : Nat} {text : Nat → Int32} {A : Nat → Nat} {sc wc ns : Int32} {ord dur pau siz wor wi le re set : Nat → Int32} {nam : Nat → Int64}
theorem sg0_TR (h : VP A) (h32 : A 6 < 32) (hC : TR A sc wc ord dur pau siz wor nam) {p : Nat} : TR (seA (sg0 T n A p)) (nI (A 6 + 1)) wc (upd ord (A 6) (nI (A 6))) (upd dur (A 6) (nI (nvl T n 1 999 p))) (upd pau (A 6) (nI (nvl T n 0 99 (nend T n p)))) (upd siz (A 6) (nI 0)) wor nam := by
  obtain ⟨hV, a1, a2, a3, a4, a5⟩ := h
  have hnw := hV.nw
  have e : ∀ j, j < 10 + 12 * A 6 ∨ 10 + 12 * A 6 + 1 < j → sg0 T n A p j = A j := fun j hj => by
    unfold sg0
    rw [uA_n (by omega), uA_n (by omega)]
  have e6 := e 6 (by omega)
  have e7 := e 7 (by omega)
  have e9 := e 9 (by omega)
  have z2 : oA A (A 6) 2 = 0 := a5 (A 6) (Nat.le_refl _) h32
  have q6 : seA (sg0 T n A p) 6 = A 6 + 1 := by rw [se_6, e6]
  have q7 : seA (sg0 T n A p) 7 = A 7 := by rw [se_n (by omega) (by omega) (by rw [e6]; omega), e7]
  unfold TR at hC ⊢
  rw [q6, q7]
  refine ⟨rfl, hC.2.1, fun s hs => ?_, fun w hw => ?_⟩
  · have hs32 : s < 32 := by omega
    by_cases h9 : s = A 6
    · have w11 : oA (seA (sg0 T n A p)) s 11 = A 6 := by rw [se_r (by omega) hs32, e6, e9, if_pos ⟨h9, rfl⟩, a1]
      have w0 : oA (seA (sg0 T n A p)) s 0 = nvl T n 1 999 p := by
        rw [se_r (by omega) hs32, if_neg (by omega), h9]
        unfold oA sg0
        rw [uA_n (by omega), uA_s]
      have w1 : oA (seA (sg0 T n A p)) s 1 = nvl T n 0 99 (nend T n p) := by
        rw [se_r (by omega) hs32, if_neg (by omega), h9]
        unfold oA sg0
        rw [uA_s]
      have w2 : oA (seA (sg0 T n A p)) s 2 = 0 := by
        rw [se_r (by omega) hs32, if_neg (by omega), h9]
        have : oA (sg0 T n A p) (A 6) 2 = oA A (A 6) 2 := e _ (by omega)
        rw [this, z2]
      rw [w11, w0, w1, w2, h9]
      exact ⟨pk_us, pk_us, pk_us, pk_us, fun k hk => absurd hk (Nat.not_lt_zero k)⟩
    · have hs6 : s < A 6 := by omega
      have ne : ∀ w, w < 12 → oA (seA (sg0 T n A p)) s w = oA A s w := fun w hw => by
        rw [se_r hw hs32, e6, if_neg (by omega)]
        exact e _ (by omega)
      have t := hC.2.2.1 s hs6
      have hseg := hV.seg hs6
      rw [ne 11 (by omega), ne 0 (by omega), ne 1 (by omega), ne 2 (by omega)]
      have w11 := a2 s hs6
      rw [w11] at t ⊢
      rw [pk_un h9, pk_un h9, pk_un h9, pk_un h9]
      refine ⟨t.1, t.2.1, t.2.2.1, t.2.2.2.1, fun k hk => ?_⟩
      rw [ne (3 + k) (by omega)]
      exact t.2.2.2.2 k hk
  · have : seA (sg0 T n A p) (475 + w) = A (475 + w) := by rw [se_n (by omega) (by omega) (by rw [e6]; omega), e _ (by omega)]
    rw [this]
    exact hC.2.2.2 w hw
theorem p_segS (hT : TX T n text) (h : VP A) (h6 : A 6 ≠ 32) (hC : TR A sc wc ord dur pau siz wor nam) {q p : Nat} (hp : p ≤ n) :
    ∃ ec ea a' sc' wc' ord' dur' pau' siz' wor' nam', F_X5_readSegment (nI q) (nI 0) (-nI 1) (nI n) (nI p) sc wc ord dur pau siz wor nam text = some (ec, ea, nI a', sc', wc', ord', dur', pau', siz', wor', nam') ∧ a' ≤ n ∧ ER (sg1 T n A p).1 ec ea ∧ ((sg1 T n A p).1 = none → a' = rn (iss T n) n (sg1 T n A p).2.2 ∧ TR (sg1 T n A p).2.1 sc' wc' ord' dur' pau' siz' wor' nam') := by
  have hn := hT.1
  have hV := h.1
  have hn6 := hV.n
  have hsc := hC.1
  subst hsc
  have h32 : A 6 < 32 := by omega
  have hE0 : ER none (nI 0) (-nI 1) := ⟨rfl, rfl⟩
  obtain ⟨ec1, ea1, f1, f2⟩ := p_readNumber (lo := 1) (hi := 999) hT hE0 hp (by omega) (by omega)
  have n1 := nend_b (T := T) hp
  obtain ⟨ec2, ea2, f3, f4⟩ := p_readNumber (lo := 0) (hi := 99) hT f2 n1.2 (by omega) (by omega)
  have n2 := nend_b (T := T) n1.2
  have f1 : F_X5_readNumber (1 : Int32) (999 : Int32) (nI 0) (-nI 1) (nI n) (nI p) text = some (nI (nvl T n 1 999 p), ec1, ea1, nI (nend T n p)) := f1
  have f3 : F_X5_readNumber (0 : Int32) (99 : Int32) ec1 ea1 (nI n) (nI (nend T n p)) text = some (nI (nvl T n 0 99 (nend T n p)), ec2, ea2, nI (nend T n (nend T n p))) := f3
  have f5 : F_X9_addSegment (nI (nvl T n 1 999 p)) (nI (nvl T n 0 99 (nend T n p))) (nI (A 6)) ord dur pau siz = some (nI 1, nI (A 6 + 1), upd ord (A 6) (nI (A 6)), upd dur (A 6) (nI (nvl T n 1 999 p)), upd pau (A 6) (nI (nvl T n 0 99 (nend T n p))), upd siz (A 6) (nI 0)) := by
    simp (disch := omega) only [fa_lit, fa_litL, nI_add, pk_mul, pk_sub, nI_clamp, gi_n, gb_0, gb_1, nI_ltI, nI_leI, nI_eq, lc_lt, lc_gt, lc_ge, lc_le, lc_eq, lN_i, nI_l, lN_add, lN_mul, lN_lt, lN_le, lN_eq, mI_eqR, mI_eqL, mI_ltL, mI_ltR, mI_leL, mI_leR, mI_add, ob1_some, ob2_some, ob3_some, ob4_some, ob5_some, ob6_some, ob7_some, ob8_some, if_true, if_false, if_pos, if_neg, Sum.elim_inl, Sum.elim_inr, un1, un2, un3, un4, un5, Nat.zero_add, Nat.add_zero, Nat.mul_one, Nat.mul_zero, Nat.sub_zero, pk_us, pk_uLs, xoq_l, xoq_r, nI_sle, F_X9_addSegment]
  unfold F_X5_readSegment
  rw [if_pos (show nI (A 6) < (32 : Int32) from nI_lt (b := 32) h32 (by omega)), f1, ob4_some, f3, ob4_some, f5, ob6_some]
  have hX1 : (sg1 T n A p).1 = orr (sgo T n p) (nml T n 9 (sg0 T n A p) (nend T n (nend T n p))).1 := rfl
  have hgo : erj (erj none (nrc T n 1 999 p) (rn (iss T n) n p)) (nrc T n 0 99 (nend T n p)) (rn (iss T n) n (nend T n p)) = sgo T n p := rfl
  rw [hgo] at f4
  by_cases c : sgo T n p = none
  · rw [c] at f4
    obtain ⟨e1, e2⟩ := f4
    subst e1; subst e2
    have hI := sg0_IP (T := T) (n := n) (p := p) h h32
    have hTr := sg0_TR (T := T) (n := n) (p := p) h h32 hC
    have hX : sg1 T n A p = (orr (sgo T n p) (nml T n 9 (sg0 T n A p) (nend T n (nend T n p))).1, seA (nml T n 9 (sg0 T n A p) (nend T n (nend T n p))).2.1, (nml T n 9 (sg0 T n A p) (nend T n (nend T n p))).2.2) := rfl
    rw [hX, c]
    obtain ⟨B, hB⟩ : ∃ B, B = sg0 T n A p := ⟨_, rfl⟩
    obtain ⟨p2, hp2⟩ : ∃ p2, p2 = nend T n (nend T n p) := ⟨_, rfl⟩
    rw [← hB] at hI hTr ⊢
    rw [← hp2] at n2 ⊢
    obtain ⟨ec', ea', p', wc', siz', wor', nam', g1, g2, g3, g4⟩ := p_readName hT hI hTr n2.2
    rw [g1, ob7_some, p_skipSpaces hT g2, ob1_some]
    have hq := rn_b (P := iss T n) n2.2
    have hp' := rn_b (P := iss T n) g2
    have hstep : nml T n 9 B p2 = if nst T n B (rn (iss T n) n p2) = 0 then (if isl T n (rn (iss T n) n (rn (isl T n) n (rn (iss T n) n p2))) = true then nml T n 8 (adW B (wrd T n (rn (iss T n) n p2))) (rn (isl T n) n (rn (iss T n) n p2)) else (none, adW B (wrd T n (rn (iss T n) n p2)), rn (isl T n) n (rn (iss T n) n p2))) else (some (nst T n B (rn (iss T n) n p2), rn (iss T n) n p2), B, p2) := nml_s T n 8 B p2
    have loop := p_nameLoop (sc := nI (A 6 + 1)) (ord := upd ord (A 6) (nI (A 6))) (dur := upd dur (A 6) (nI (nvl T n 1 999 p))) (pau := upd pau (A 6) (nI (nvl T n 0 99 (nend T n p)))) (R := nml T n 9 B p2) hT wF 8 (nI 1, ec', ea', nI (rn (iss T n) n p'), wc', siz', wor', nam')
    have inv : (∃ c, nI 1 = nI c ∧ c + 8 ≤ 30 ∧ ((∃ e a', (nml T n 9 B p2).1 = some e ∧ ER (some e) ec' ea' ∧ nI (rn (iss T n) n p') = nI a' ∧ a' ≤ n) ∨ ∃ A2 p3, IP A2 ∧ p3 ≤ n ∧ ec' = nI 0 ∧ ea' = -nI 1 ∧ nI (rn (iss T n) n p') = nI (rn (iss T n) n p3) ∧ TR (seA A2) (nI (A 6 + 1)) wc' (upd ord (A 6) (nI (A 6))) (upd dur (A 6) (nI (nvl T n 1 999 p))) (upd pau (A 6) (nI (nvl T n 0 99 (nend T n p)))) siz' wor' nam' ∧ ((isl T n (rn (iss T n) n p3) = true ∧ 9 - oA A2 (A2 6) 2 ≤ 8 ∧ nml T n 9 B p2 = nml T n 8 A2 p3) ∨ (isl T n (rn (iss T n) n p3) = false ∧ nml T n 9 B p2 = (none, A2, p3))))) := by
      refine ⟨1, rfl, by omega, ?_⟩
      by_cases c4 : nst T n B (rn (iss T n) n p2) = 0
      · have g5 := g4 c4
        rw [c4] at g3
        obtain ⟨g6, g7⟩ := g3
        rw [if_pos c4] at hstep
        have k8 : oA B (B 6) 2 < 8 := by
          have b1 := (nst_0 hq.2 c4).2.1
          have b2 := hI.2.2.2.2.2.2.2.2.2.2.1
          have e2 : oA B (B 6) 2 = B (10 + 12 * B 6 + 2) := rfl
          omega
        have k9 := adW_2 hI (v := wrd T n (rn (iss T n) n p2)) k8
        refine Or.inr ⟨adW B (wrd T n (rn (iss T n) n p2)), p', nst_IP hI hq.2 c4, g2, g6, g7, rfl, g5.2, ?_⟩
        rw [g5.1]
        by_cases c5 : isl T n (rn (iss T n) n (rn (isl T n) n (rn (iss T n) n p2))) = true
        · rw [if_pos c5] at hstep
          exact Or.inl ⟨c5, by rw [k9]; omega, hstep⟩
        · rw [if_neg c5] at hstep
          exact Or.inr ⟨by simpa using c5, hstep⟩
      · rw [if_neg c4] at hstep
        have e9 : erj none (nst T n B (rn (iss T n) n p2)) (rn (iss T n) n p2) = some (nst T n B (rn (iss T n) n p2), rn (iss T n) n p2) := if_neg c4
        rw [e9] at g3
        exact Or.inl ⟨(nst T n B (rn (iss T n) n p2), rn (iss T n) n p2), rn (iss T n) n p', by rw [hstep], g3, rfl, hp'.2⟩
    obtain ⟨ec, ea, a', wc2, siz2, wor2, nam2, l1, l2, l3, l4⟩ := loop inv (by unfold wF; omega)
    generalize nml T n 9 B p2 = R at l3 l4 ⊢
    rw [show (1 : Int32) = nI 1 from rfl, l1, ob7_some]
    exact ⟨_, _, _, _, _, _, _, _, _, _, _, rfl, l2, l3, l4⟩
  · obtain ⟨e, he⟩ : ∃ e, sgo T n p = some e := by
      cases hx : sgo T n p with
      | none => exact absurd hx c
      | some e => exact ⟨e, rfl⟩
    have hX2 : (sg1 T n A p).1 = some e := by rw [hX1, he]; rfl
    rw [he] at f4
    rw [hX2]
    obtain ⟨p', g1, g2⟩ := p_readNameErr (sc := nI (A 6 + 1)) (wc := wc) (ord := upd ord (A 6) (nI (A 6))) (siz := upd siz (A 6) (nI 0)) (wor := wor) (nam := nam) hT f4 (by intro h; cases h) n2.2
    have hp' := rn_b (P := iss T n) g1
    rw [g2, ob7_some, p_skipSpaces hT g1, ob1_some]
    obtain ⟨ec, ea, a', wc2, siz2, wor2, nam2, l1, l2, l3, l4⟩ := p_nameLoop (sc := nI (A 6 + 1)) (ord := upd ord (A 6) (nI (A 6))) (dur := upd dur (A 6) (nI (nvl T n 1 999 p))) (pau := upd pau (A 6) (nI (nvl T n 0 99 (nend T n p)))) (R := (some e, A, p)) hT wF 8 (nI 1, ec2, ea2, nI (rn (iss T n) n p'), wc, upd siz (A 6) (nI 0), wor, nam) ⟨1, rfl, by omega, Or.inl ⟨e, _, rfl, f4, rfl, hp'.2⟩⟩ (by unfold wF; omega)
    rw [show (1 : Int32) = nI 1 from rfl, l1, ob7_some]
    exact ⟨_, _, _, _, _, _, _, _, _, _, _, rfl, l2, l3, fun h => by cases h⟩
theorem p_slotS (hT : TX T n text) (h : VP A) (h8 : A 8 ≠ 5) (hQ : QR A ns wi le re) {q p : Nat} (hp : p ≤ n) :
    ∃ ec ea a' ns' wi' le' re', F_X5_readSlot (nI q) (nI 0) (-nI 1) (nI n) (nI p) ns wi le re text = some (ec, ea, nI a', ns', wi', le', re') ∧ a' ≤ n ∧ ER (sl1 T n A p).1 ec ea ∧ a' = (sl1 T n A p).2.2 ∧ QR (sl1 T n A p).2.1 ns' wi' le' re' := by
  have hn := hT.1
  have hV := h.1
  have hl := hV.nl
  have hns := hQ.1
  have hE0 : ER none (nI 0) (-nI 1) := ⟨rfl, rfl⟩
  obtain ⟨ec1, ea1, f1, f2⟩ := p_readNumber (lo := 0) (hi := 9999) hT hE0 hp (by omega) (by omega)
  have n1 := nend_b (T := T) hp
  obtain ⟨ec2, ea2, f3, f4⟩ := p_readNumber (lo := 1) (hi := 300) hT f2 n1.2 (by omega) (by omega)
  have n2 := nend_b (T := T) n1.2
  obtain ⟨ec3, ea3, f5, f6⟩ := p_readNumber (lo := 0) (hi := 999) hT f4 n2.2 (by omega) (by omega)
  have n3 := nend_b (T := T) n2.2
  have f1 : F_X5_readNumber (0 : Int32) (9999 : Int32) (nI 0) (-nI 1) (nI n) (nI p) text = some (nI (nvl T n 0 9999 p), ec1, ea1, nI (nend T n p)) := f1
  have f3 : F_X5_readNumber (1 : Int32) (300 : Int32) ec1 ea1 (nI n) (nI (nend T n p)) text = some (nI (nvl T n 1 300 (nend T n p)), ec2, ea2, nI (nend T n (nend T n p))) := f3
  have f5 : F_X5_readNumber (0 : Int32) (999 : Int32) ec2 ea2 (nI n) (nI (nend T n (nend T n p))) text = some (nI (nvl T n 0 999 (nend T n (nend T n p))), ec3, ea3, nI (nend T n (nend T n (nend T n p)))) := f5
  have v1 := nvl_b (T := T) (n := n) (p := p) (lo := 0) (hi := 9999) (by omega)
  have v2 := nvl_b (T := T) (n := n) (p := nend T n p) (lo := 1) (hi := 300) (by omega)
  have v3 := nvl_b (T := T) (n := n) (p := nend T n (nend T n p)) (lo := 0) (hi := 999) (by omega)
  obtain ⟨wi', le', re', g1, g2⟩ := p_insert hV hQ (w := nvl T n 0 9999 p) (l := nvl T n 1 300 (nend T n p)) (r := nvl T n 0 999 (nend T n (nend T n p))) (by omega) v1.2 v2.2 v3.2
  unfold F_X5_readSlot
  rw [hns] at g1 ⊢
  rw [if_pos (show nI (A 8) < (5 : Int32) from nI_lt (b := 5) (by omega) (by omega)), f1, ob4_some, f3, ob4_some, f5, ob4_some, g1, ob5_some]
  exact ⟨_, _, _, _, _, _, _, rfl, n3.2, f6, rfl, g2⟩
theorem p_settingS (hT : TX T n text) (h : VP A) (hS : SR A set) {p : Nat} (hp : p ≤ n) :
    ∃ ec ea a' set', F_X5_readSetting (nI 0) (-nI 1) (nI n) (nI p) set text = some (ec, ea, nI a', set') ∧ a' ≤ n ∧ ER (se1 T n A p).1 ec ea ∧ a' = (se1 T n A p).2.2 ∧ SR (se1 T n A p).2.1 set' := by
  have hn := hT.1
  have hE0 : ER none (nI 0) (-nI 1) := ⟨rfl, rfl⟩
  obtain ⟨ec1, ea1, f1, f2⟩ := p_readNumber (lo := 0) (hi := 5) hT hE0 hp (by omega) (by omega)
  have n1 := nend_b (T := T) hp
  have v1 := nvl_b (T := T) (n := n) (p := p) (lo := 0) (hi := 5) (by omega)
  unfold se1
  dsimp only
  generalize nvl T n 0 5 p = kk at *
  have hsl : slo kk ≤ shi kk ∧ shi kk ≤ 9999 := by
    unfold slo shi; split <;> split <;> (try split) <;> (try split) <;> omega
  have e1 : gq_low kk = nI (slo kk) := by
    rcases (show kk = 0 ∨ kk = 1 ∨ kk = 2 ∨ kk = 3 ∨ kk = 4 ∨ kk = 5 by omega) with h | h | h | h | h | h <;> subst h <;> rfl
  have e2 : gq_high kk = nI (shi kk) := by
    rcases (show kk = 0 ∨ kk = 1 ∨ kk = 2 ∨ kk = 3 ∨ kk = 4 ∨ kk = 5 by omega) with h | h | h | h | h | h <;> subst h <;> rfl
  obtain ⟨ec2, ea2, f3, f4⟩ := p_readNumber (lo := slo kk) (hi := shi kk) hT f2 n1.2 hsl.1 hsl.2
  have n2 := nend_b (T := T) n1.2
  have f1 : F_X5_readNumber (0 : Int32) (5 : Int32) (nI 0) (-nI 1) (nI n) (nI p) text = some (nI kk, ec1, ea1, nI (nend T n p)) := f1
  unfold F_X5_readSetting
  rw [f1, ob4_some, gi_n (by omega) (by omega), gi_n (by omega) (by omega), nI_clamp (by omega), e1, e2, f3, ob4_some, gi_n (by omega) (by omega)]
  exact ⟨_, _, _, _, rfl, n2.2, f4, rfl, set_SR hS⟩
end
