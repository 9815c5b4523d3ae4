/-! ===== one word of a segment that is read ===== -/
/-- what the word at q is: 0 right, 2 none, 4 one too many -/
def nst (T : Nat → Nat) (n : Nat) (A : Nat → Nat) (q : Nat) : Nat := if wrd T n q = 0 then 2 else if A (10 + 12 * A 6 + 2) = 8 then 4 else if wix A (wrd T n q) = A 7 ∧ A 7 = 24 then 4 else 0
section
variable {T : Nat → Nat} {n : Nat} {text : Nat → Int32} {A : Nat → Nat} {sc wc : Int32} {ord dur pau siz wor : Nat → Int32} {nam : Nat → Int64} {a : Nat → Int64}
theorem p_mention (hnw : A 7 ≤ 24) (hnm : ∀ w, w < A 7 → nmOK 8 (A (475 + w))) (hn2 : ∀ w, w < A 7 → nam w = lN (A (475 + w))) {v : Nat} (hv : nmOK 8 v) :
    ∃ r W nam', F_X9_mention (lN v) (nI (A 7)) nam = some (r, W, nam') ∧ ((wix A v = A 7 ∧ A 7 = 24 → r = -nI 1) ∧ (¬ (wix A v = A 7 ∧ A 7 = 24) → r = nI (wix A v) ∧ W = nI (adN A v 7) ∧ ∀ w, w < adN A v 7 → nam' w = lN (adN A v (475 + w)))) := by
  have hb := wix_b (A := A) (v := v)
  have e1 : nmo A (lN v) = wix A v := by
    unfold nmo wix
    refine fi_congr _ (fun w hw => ?_)
    have h1 := lN_40 (nmOK_8 (hnm w hw)).2 (nmOK_8 hv).2
    by_cases h2 : A (475 + w) = v
    · rw [decide_eq_true (h1.mpr h2)]; simp [h2]
    · rw [decide_eq_false (fun h => h2 (h1.mp h))]; simp [h2]
  have g := p_numberOf hnw rfl hn2 (lN v)
  rw [e1] at g
  unfold F_X9_mention
  simp only [fa_lit]
  rw [g, ob1_some]
  by_cases c1 : wix A v < A 7
  · rw [rI_l c1, if_neg (by rw [mI_eqR (by omega)]; exact fun h => h)]
    refine ⟨_, _, _, rfl, fun h => by omega, fun _ => ⟨rfl, ?_, fun w hw => ?_⟩⟩
    · rw [adN_7, if_pos c1]
    · rw [adN_7, if_pos c1] at hw
      unfold adN
      rw [if_pos c1]; exact hn2 w hw
  · rw [rI_n c1, if_pos rfl]
    by_cases c2 : A 7 < 24
    · rw [if_pos (nI_lt c2 (by omega)), gi_n (by omega) (by omega), nI_clamp (by omega), nI_add]
      refine ⟨_, _, _, rfl, fun h => by omega, fun _ => ⟨?_, ?_, fun w hw => ?_⟩⟩
      · rw [pk_sub (by omega)]; congr 1; omega
      · rw [adN_7, if_neg c1]
      · rw [adN_7, if_neg c1] at hw
        unfold adN
        rw [if_neg c1, uA_n (by omega)]
        by_cases h2 : w = A 7
        · subst h2; rw [pk_uLs, uA_s]
        · rw [pk_uLn h2, uA_n (by omega)]; exact hn2 w (by omega)
    · rw [if_neg (fun h => c2 ((nI_ltI (by omega) (by omega)).mp h))]
      exact ⟨_, _, _, rfl, fun _ => rfl, fun h => absurd ⟨by omega, by omega⟩ h⟩
/-- what the class holds of a segment begun -/
theorem adW_TR (h : IP A) (hT : TR (seA A) sc wc ord dur pau siz wor nam) {v : Nat} (h1 : wix A v < A 7 ∨ A 7 < 24) (h8 : oA A (A 6) 2 < 8) {nam' : Nat → Int64} (hnm : ∀ w, w < adN A v 7 → nam' w = lN (adN A v (475 + w))) : TR (seA (adW A v)) sc (nI (adN A v 7)) ord dur pau (upd siz (A 6) (nI (oA A (A 6) 2 + 1))) (upd wor (A 6 * 8 + oA A (A 6) 2) (nI (wix A v))) nam' := by
  obtain ⟨hV, a1, a2, a3, a4, a5, a6, b0, b1, b2, b3, b4⟩ := h
  have h8' : A (10 + 12 * A 6 + 2) < 8 := h8
  have hr := fun s w (hs : s < 32) (hw : w < 12) => adW_r (v := v) a6 h8' hs hw
  have q6 : seA (adW A v) 6 = A 6 + 1 := by rw [se_6, adW_6]
  have q7 : seA (adW A v) 7 = adN A v 7 := by rw [se_n (by omega) (by omega) (by rw [adW_6]; omega), adW_7]
  have q9 : adW A v 9 = A 9 := by unfold adW; rw [uA_n (by omega), uA_n (by omega), adN_n (by omega) (by omega)]
  have hnw := hV.nw
  have hN : adN A v 7 ≤ 24 := by
    rw [adN_7]
    have := wix_b (A := A) (v := v)
    split <;> omega
  unfold TR at hT ⊢
  rw [se_6] at hT
  rw [q6, q7]
  refine ⟨hT.1, rfl, fun s hs => ?_, fun w hw => ?_⟩
  · have hs32 : s < 32 := by omega
    have t := hT.2.2.1 s hs
    have w11 : oA (seA A) s 11 = s := by
      rw [se_r (by omega) hs32]
      by_cases h9 : s = A 6
      · rw [if_pos ⟨h9, rfl⟩, a1, h9]
      · rw [if_neg (by omega)]; exact a2 s (by omega)
    have w11' : oA (seA (adW A v)) s 11 = s := by
      rw [se_r (by omega) hs32, adW_6, q9]
      by_cases h9 : s = A 6
      · rw [if_pos ⟨h9, rfl⟩, a1, h9]
      · rw [if_neg (by omega), hr s 11 hs32 (by omega), if_neg (by omega), if_neg (by omega)]; exact a2 s (by omega)
    have ne : ∀ w, w < 11 → oA (seA A) s w = oA A s w := fun w hw => by rw [se_r (by omega) hs32, if_neg (by omega)]
    have ne' : ∀ w, w < 11 → oA (seA (adW A v)) s w = (if s = A 6 ∧ w = 2 then oA A (A 6) 2 + 1 else if s = A 6 ∧ w = 3 + oA A (A 6) 2 then wix A v else oA A s w) := fun w hw => by rw [se_r (by omega) hs32, if_neg (by omega), hr s w hs32 (by omega)]
    rw [w11, ne 0 (by omega), ne 1 (by omega), ne 2 (by omega)] at t
    rw [w11', ne' 0 (by omega), ne' 1 (by omega), ne' 2 (by omega), if_neg (show ¬ (s = A 6 ∧ 0 = 2) by omega), if_neg (show ¬ (s = A 6 ∧ 1 = 2) by omega), if_neg (show ¬ (s = A 6 ∧ 0 = 3 + oA A (A 6) 2) by omega), if_neg (show ¬ (s = A 6 ∧ 1 = 3 + oA A (A 6) 2) by omega)]
    refine ⟨t.1, t.2.1, t.2.2.1, ?_, fun k hk => ?_⟩
    · by_cases h9 : s = A 6
      · rw [h9, pk_us, if_pos ⟨rfl, rfl⟩]
      · rw [pk_un h9, if_neg (by omega), if_neg (by omega)]; exact t.2.2.2.1
    · by_cases h9 : s = A 6
      · rw [if_pos ⟨h9, rfl⟩] at hk
        rw [ne' (3 + k) (by omega), if_neg (by omega)]
        by_cases h10 : k = oA A (A 6) 2
        · subst h10
          rw [h9, pk_us, if_pos ⟨rfl, rfl⟩]
        · rw [if_neg (by omega), pk_un (by omega)]
          have t5 := t.2.2.2.2 k (by rw [h9]; omega)
          rw [ne (3 + k) (by omega)] at t5
          exact t5
      · rw [if_neg (by omega), if_neg (by omega)] at hk
        have hk8 : k < 8 := by
          have := hV.seg (s := s) (by omega)
          omega
        rw [ne' (3 + k) (by omega), if_neg (by omega), if_neg (by omega), pk_un (by omega)]
        have t5 := t.2.2.2.2 k hk
        rw [ne (3 + k) (by omega)] at t5
        exact t5
  · have e5 : seA (adW A v) (475 + w) = adN A v (475 + w) := by
      rw [se_n (by omega) (by omega) (by rw [adW_6]; omega)]
      unfold adW
      rw [uA_n (by omega), uA_n (by omega)]
    rw [e5]
    exact hnm w hw
theorem p_readNameErr (hT : TX T n text) {o : Option (Nat × Nat)} {ec ea : Int32} (hE : ER o ec ea) (ho : o ≠ none) {p : Nat} (hp : p ≤ n) : ∃ p', p' ≤ n ∧ F_X5_readName ec ea (nI n) (nI p) sc wc ord siz wor nam text = some (ec, ea, nI p', wc, siz, wor, nam) := by
  have hn := hT.1
  have hq := rn_b (P := iss T n) hp
  obtain ⟨x, rfl⟩ : ∃ x, o = some x := by
    cases o with
    | none => exact absurd rfl ho
    | some x => exact ⟨x, rfl⟩
  have e := hE.2.2.2.1
  have h0 : ¬ ec = (0 : Int32) := by rw [e]; exact ng_0 x.1 (by have := hE.2.1; omega) hE.1
  have hb := rn_b (P := isl T n) hq.2
  refine ⟨rn (isl T n) n (rn (iss T n) n p), hb.2, ?_⟩
  unfold F_X5_readName F_X5_readName_b27 F_X5_fail
  rw [p_skipSpaces hT hp, ob1_some, p_readWord hT hq.2, ob2_some, if_neg h0, if_neg h0, ob2_some, if_neg h0]
  split <;> rfl
theorem p_readName (hT : TX T n text) (h : IP A) (hC : TR (seA A) sc wc ord dur pau siz wor nam) {p : Nat} (hp : p ≤ n) :
    ∃ ec' ea' p' wc' siz' wor' nam', F_X5_readName (nI 0) (-nI 1) (nI n) (nI p) sc wc ord siz wor nam text = some (ec', ea', nI p', wc', siz', wor', nam') ∧ p' ≤ n ∧ ER (erj none (nst T n A (rn (iss T n) n p)) (rn (iss T n) n p)) ec' ea' ∧ (nst T n A (rn (iss T n) n p) = 0 → p' = rn (isl T n) n (rn (iss T n) n p) ∧ TR (seA (adW A (wrd T n (rn (iss T n) n p)))) sc wc' ord dur pau siz' wor' nam') := by
  have hn := hT.1
  have hq := rn_b (P := iss T n) hp
  have hIP := h
  obtain ⟨hV, a1, a2, a3, a4, a5, a6, b0, b1, b2, b3, b4⟩ := h
  have hnw := hV.nw
  unfold F_X5_readName
  simp only [fa_lit, fa_litL]
  rw [p_skipSpaces hT hp, ob1_some]
  generalize rn (iss T n) n p = q at *
  have hb := rn_b (P := isl T n) hq.2
  rw [p_readWord hT hq.2, ob2_some]
  have hE0 : ER none (nI 0) (-nI 1) := ⟨rfl, rfl⟩
  by_cases c1 : wrd T n q = 0
  · have e1 : nst T n A q = 2 := if_pos c1
    obtain ⟨ec', ea', g1, g2⟩ := p_fail hE0 (c := 2) (p := q) (by omega) (by omega) (by omega)
    rw [c1, if_pos (show lg_cmp (lN 0) (lN 0) = nI 0 by rw [lc_eq]), g1, ob2_some, e1]
    have g3 : ¬ ec' = (0 : Int32) := by rw [g2.2.2.2.1]; exact ng_0 2 (by omega) (by omega)
    refine ⟨ec', ea', rn (isl T n) n q, wc, siz, wor, nam, ?_, hb.2, g2, fun h => by omega⟩
    unfold F_X5_readName_b27
    rw [if_neg g3]
  · have hw := wrd_ok hq.2 c1
    have hw40 := nmOK_8 hw.1
    rw [if_neg (by rw [lc_eq]; exact fun h => c1 ((lN_40 hw40.2 (by omega)).mp h))]
    unfold F_X5_readName_b27
    rw [if_pos (show nI 0 = (0 : Int32) from rfl)]
    have t7 : seA A 7 = A 7 := se_n (by omega) (by omega) (by omega)
    have hwc : wc = nI (A 7) := by rw [hC.2.1, t7]
    have hsc : sc = nI (A 6 + 1) := by rw [hC.1, se_6]
    have hnm : ∀ w, w < A 7 → nam w = lN (A (475 + w)) := fun w hw => by
      have := hC.2.2.2 w (by rw [t7]; exact hw)
      rw [se_n (by omega) (by omega) (by omega)] at this
      exact this
    obtain ⟨r, W, nam', g1, g2, g3⟩ := p_mention hnw (fun w hw => hV.nm hw) hnm hw.1
    obtain ⟨ec', ea', f1, f2⟩ := p_fail hE0 (c := 4) (p := q) (by omega) (by omega) (by omega)
    have bad : ∀ (W : Int32) (s2 w2 : Nat → Int32) (n2 : Nat → Int64), F_X5_readName_b84 (nI q) (nI 0) (-nI 1) (nI (rn (isl T n) n q)) W s2 w2 n2 = some (ec', ea', nI (rn (isl T n) n q), W, s2, w2, n2) := fun W s2 w2 n2 => by
      unfold F_X5_readName_b84
      simp only [fa_lit]
      rw [f1, ob2_some]
    rw [hwc, g1, ob3_some, hsc]
    have e1 : nI (A 6 + 1) - (1 : Int32) = nI (A 6) := by
      show nI (A 6 + 1) - nI 1 = nI (A 6)
      rw [pk_sub (by omega), Nat.add_sub_cancel]
    have e0 : ¬ nI (A 6 + 1) - (1 : Int32) < (0 : Int32) := by
      rw [e1]
      exact fun h => by have := (nI_ltI (b := 0) (by omega) (by omega)).mp h; omega
    rw [if_neg e0, e1]
    by_cases c2 : wix A (wrd T n q) = A 7 ∧ A 7 = 24
    · have e3 : nst T n A q = 4 := by
        unfold nst
        rw [if_neg c1]
        split
        · rfl
        · first
            | rfl
            | rw [if_pos c2]
      rw [if_pos (show r = (-1 : Int32) from g2 c2), bad, e3]
      exact ⟨_, _, _, _, _, _, _, rfl, hb.2, f2, fun h => by omega⟩
    · obtain ⟨g4, g5, g6⟩ := g3 c2
      have hwb := wix_b (A := A) (v := wrd T n q)
      rw [if_neg (by rw [g4, show (-1 : Int32) = -nI 1 from rfl, mI_eqR (by omega)]; exact fun h => h), g4]
      have hrow := hC.2.2.1 (A 6) (by rw [se_6]; omega)
      have w11 : oA (seA A) (A 6) 11 = A 6 := by rw [se_r (by omega) a6, if_pos ⟨rfl, rfl⟩, a1]
      have w2 : oA (seA A) (A 6) 2 = oA A (A 6) 2 := by rw [se_r (by omega) a6, if_neg (by omega)]
      rw [w11, w2] at hrow
      have e2 : oA A (A 6) 2 = A (10 + 12 * A 6 + 2) := rfl
      by_cases c3 : oA A (A 6) 2 < 8
      · have e3 : nst T n A q = 0 := by
          unfold nst
          rw [if_neg c1, if_neg (by omega), if_neg c2]
        have g7 : F_X9_putWord (nI (A 6)) (nI (wix A (wrd T n q))) ord siz wor = some (nI 1, upd siz (A 6) (nI (oA A (A 6) 2 + 1)), upd wor (A 6 * 8 + oA A (A 6) 2) (nI (wix A (wrd T n q)))) := by
          simp (disch := omega) only [fa_lit, fa_litL, nI_add, pk_mul, pk_sub, nI_clamp, gi_n, gb_0, gb_1, nI_ltI, nI_leI, nI_eq, lc_lt, lc_gt, lc_ge, lc_le, lc_eq, lN_i, nI_l, lN_add, lN_mul, lN_lt, lN_le, lN_eq, mI_eqR, mI_eqL, mI_ltL, mI_ltR, mI_leL, mI_leR, mI_add, ob1_some, ob2_some, ob3_some, ob4_some, ob5_some, ob6_some, ob7_some, ob8_some, if_true, if_false, if_pos, if_neg, Sum.elim_inl, Sum.elim_inr, un1, un2, un3, un4, un5, Nat.zero_add, Nat.add_zero, Nat.mul_one, Nat.mul_zero, Nat.sub_zero, pk_us, pk_uLs, xoq_l, xoq_r, nI_sle, F_X9_putWord, hrow.1, hrow.2.2.2.1]
        rw [g7, ob3_some, if_neg (show ¬ nI 1 = (0 : Int32) by decide), e3]
        refine ⟨_, _, _, _, _, _, _, rfl, hb.2, hE0, fun _ => ⟨rfl, ?_⟩⟩
        rw [g5]
        rw [hsc] at hC
        exact adW_TR hIP hC (by omega) c3 g6
      · have e3 : nst T n A q = 4 := by
          unfold nst
          rw [if_neg c1, if_pos (by omega)]
        have g7 : F_X9_putWord (nI (A 6)) (nI (wix A (wrd T n q))) ord siz wor = some (nI 0, siz, wor) := by
          simp (disch := omega) only [fa_lit, fa_litL, nI_add, pk_mul, pk_sub, nI_clamp, gi_n, gb_0, gb_1, nI_ltI, nI_leI, nI_eq, lc_lt, lc_gt, lc_ge, lc_le, lc_eq, lN_i, nI_l, lN_add, lN_mul, lN_lt, lN_le, lN_eq, mI_eqR, mI_eqL, mI_ltL, mI_ltR, mI_leL, mI_leR, mI_add, ob1_some, ob2_some, ob3_some, ob4_some, ob5_some, ob6_some, ob7_some, ob8_some, if_true, if_false, if_pos, if_neg, Sum.elim_inl, Sum.elim_inr, un1, un2, un3, un4, un5, Nat.zero_add, Nat.add_zero, Nat.mul_one, Nat.mul_zero, Nat.sub_zero, pk_us, pk_uLs, xoq_l, xoq_r, nI_sle, F_X9_putWord, hrow.1, hrow.2.2.2.1]
        rw [g7, ob3_some, if_pos (show nI 0 = (0 : Int32) from rfl), bad, e3]
        exact ⟨_, _, _, _, _, _, _, rfl, hb.2, f2, fun h => by omega⟩
/-! the reference's word -/
theorem q_wordLoop (hT : TX T n text) {q : Nat} {at_ be kd wa : Int32} {num : Int64} {fr : Nat → Int64} (hq : q ≤ n) (hw : wrd T n q ≠ 0) : wh (fun k s => S_X11_takesWord_56 (nI n) at_ (nI (rn (isl T n) n q)) kd (nI 0) wa num fr text k s.1 s.2) wF (lN 0, nI q) = some (lN (wrd T n q)) := by
  have hn := hT.1
  have hb := rn_b (P := isl T n) hq
  have hk := wrd_ok hq hw
  have e1 : wrd T n q = wvl T q (rn (isl T n) n q - q) := by unfold wrd; rw [if_pos hk.2.2.1]
  rw [e1]
  refine whf (fun j => (lN (wvl T q j), nI (q + j))) 0 (rn (isl T n) n q - q) rfl (by omega) (by omega) (fun j _ hj k => ?_) (fun k => ?_)
  · have h1 := isl_iff.mp (rn_in (P := isl T n) (n := n) (p := q) (j := q + j) (by omega) (by omega))
    have h3 := (hT.2 (q + j) h1.1).1
    show S_X11_takesWord_56 (nI n) at_ (nI (rn (isl T n) n q)) kd (nI 0) wa num fr text k (lN (wvl T q j)) (nI (q + j)) = k (lN (wvl T q (j + 1)), nI (q + (j + 1)))
    rw [wvl_s]
    unfold S_X11_takesWord_56
    rw [if_pos (show nI 0 = (0 : Int32) from rfl), if_neg (fun h => by have := (nI_leI (by omega) (by omega)).mp h; omega), gi_n (by omega) (by omega), nI_clamp (by omega), h3, nI_l (by omega)]
    have e2 : (32 : Int64) * lN (wvl T q j) + lN (T (q + j)) - (96 : Int64) = lN (32 * wvl T q j + (T (q + j) - 96)) := by
      show lN 32 * lN (wvl T q j) + lN (T (q + j)) - lN 96 = _
      rw [lN_mul, lN_add, lN_sub (by omega)]
      congr 1; omega
    rw [e2]
    exact congrArg (fun x => k (lN (32 * wvl T q j + (T (q + j) - 96)), x)) (nI_add (q + j) 1)
  · show S_X11_takesWord_56 (nI n) at_ (nI (rn (isl T n) n q)) kd (nI 0) wa num fr text k (lN (wvl T q (rn (isl T n) n q - q))) (nI (q + (rn (isl T n) n q - q))) = _
    rw [show q + (rn (isl T n) n q - q) = rn (isl T n) n q by omega]
    unfold S_X11_takesWord_56
    rw [if_pos (show nI 0 = (0 : Int32) from rfl), if_pos (nI_le (Nat.le_refl _) (by omega))]
theorem q_search (hM : MR A a) (hnw : A 7 ≤ 24) (hnm : ∀ w, w < A 7 → nmOK 8 (A (475 + w))) {v : Nat} (hv : v < 1099511627776) {at_ be kd wr wa : Int32} {num : Int64} : wh (fun k q => S_X11_takesWord_110 (lN v) (nI (A 7)) (nI n) at_ be kd wr wa num a text k q) wF (nI 0) = some (nI (wix A v)) := by
  have hle := wix_b (A := A) (v := v)
  have hlt := fi_lt (fun w => A (475 + w) == v) (A 7)
  have hat := fi_at (fun w => A (475 + w) == v) (A 7)
  refine wh_up (wix A v) (by omega) (fun (j : Nat) (q : Int32) => q = nI j) (fun (o : Option ((Int32))) => o = some (nI (wix A v))) (fun j q hj hI k hk => ?_) (Nat.zero_le _) rfl
  have hI : q = nI j := hI
  subst hI
  by_cases g1 : j < wix A v
  · have g2 : A (475 + j) ≠ v := by simpa using hlt j g1
    have g3 : (lN (A (475 + j)) = lN v) = False := eq_false (fun h => g2 ((lN_40 (nmOK_8 (hnm j (by omega))).2 hv).mp h))
    have h9 := hk g1 (nI (j + 1)) rfl
    simp (disch := omega) only [fa_lit, fa_litL, nI_add, pk_mul, pk_sub, nI_clamp, gi_n, gb_0, gb_1, nI_ltI, nI_leI, nI_eq, lc_lt, lc_gt, lc_ge, lc_le, lc_eq, lN_i, nI_l, lN_add, lN_mul, lN_lt, lN_le, lN_eq, mI_eqR, mI_eqL, mI_ltL, mI_ltR, mI_leL, mI_leR, mI_add, ob1_some, ob2_some, ob3_some, ob4_some, ob5_some, ob6_some, ob7_some, ob8_some, if_true, if_false, if_pos, if_neg, Sum.elim_inl, Sum.elim_inr, un1, un2, un3, un4, un5, Nat.zero_add, Nat.add_zero, Nat.mul_one, Nat.mul_zero, Nat.sub_zero, pk_us, pk_uLs, xoq_l, xoq_r, nI_sle, S_X11_takesWord_110, hM.at, g3]
    exact h9
  · have h8 : j = wix A v := by omega
    subst h8
    by_cases g4 : wix A v < A 7
    · have g2 : A (475 + wix A v) = v := by simpa [wix] using hat g4
      simp (disch := omega) only [fa_lit, fa_litL, nI_add, pk_mul, pk_sub, nI_clamp, gi_n, gb_0, gb_1, nI_ltI, nI_leI, nI_eq, lc_lt, lc_gt, lc_ge, lc_le, lc_eq, lN_i, nI_l, lN_add, lN_mul, lN_lt, lN_le, lN_eq, mI_eqR, mI_eqL, mI_ltL, mI_ltR, mI_leL, mI_leR, mI_add, ob1_some, ob2_some, ob3_some, ob4_some, ob5_some, ob6_some, ob7_some, ob8_some, if_true, if_false, if_pos, if_neg, Sum.elim_inl, Sum.elim_inr, un1, un2, un3, un4, un5, Nat.zero_add, Nat.add_zero, Nat.mul_one, Nat.mul_zero, Nat.sub_zero, pk_us, pk_uLs, xoq_l, xoq_r, nI_sle, S_X11_takesWord_110, hM.at, g2]
    · simp (disch := omega) only [fa_lit, fa_litL, nI_add, pk_mul, pk_sub, nI_clamp, gi_n, gb_0, gb_1, nI_ltI, nI_leI, nI_eq, lc_lt, lc_gt, lc_ge, lc_le, lc_eq, lN_i, nI_l, lN_add, lN_mul, lN_lt, lN_le, lN_eq, mI_eqR, mI_eqL, mI_ltL, mI_ltR, mI_leL, mI_leR, mI_add, ob1_some, ob2_some, ob3_some, ob4_some, ob5_some, ob6_some, ob7_some, ob8_some, if_true, if_false, if_pos, if_neg, Sum.elim_inl, Sum.elim_inr, un1, un2, un3, un4, un5, Nat.zero_add, Nat.add_zero, Nat.mul_one, Nat.mul_zero, Nat.sub_zero, pk_us, pk_uLs, xoq_l, xoq_r, nI_sle, S_X11_takesWord_110, hM.at]
theorem q_tw97 (hM : MR A a) (hnw : A 7 ≤ 24) (hnm : ∀ w, w < A 7 → nmOK 8 (A (475 + w))) {v : Nat} (hv : v < 1099511627776) {o : Option (Nat × Nat)} {at_ be kd wr wa : Int32} {num : Int64} (hE : RE o wr wa) (ho : o ≠ none) : F_X11_takesWord_b97 (lN v) (nI n) at_ be kd wr wa num a text = some (nI 0, at_, be, kd, wr, wa, num, a) := by
  have h0 := hE.no ho
  unfold F_X11_takesWord_b97
  have h7 := hM.at (k := 7) (by omega)
  have e7 : (a (7 : Int32).toNatClampNeg).toInt32 = nI (A 7) := by
    rw [show (7 : Int32).toNatClampNeg = 7 from by decide, h7, lN_i]
  rw [e7]
  simp only [fa_lit]
  rw [gi_n (by omega) (by omega), ob1_s (q_search (n := n) (text := text) hM hnw hnm hv)]
  unfold F_X11_takesWord_b139 F_X11_fails F_X11_takesWord_b152
  rw [if_neg h0, if_neg h0, ob2_some, if_neg h0]
  split <;> rfl
end
