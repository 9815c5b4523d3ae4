/-! ===== titles, by the reference ===== -/
section
variable {A : Nat → Nat} {a : Nat → Int64} {x : Int × Nat × Nat} {W C E : Nat → Int32}
theorem ch_rng (hx : tbl A 0 = some x) {c : Nat} (hc : c ≤ x.2.1) : bg (tbl A) c ≤ en (tbl A) (bg (tbl A) c) ∧ en (tbl A) (bg (tbl A) c) < A 6 := by
  have h1 := (tbl_cht hx).1 c hc
  have h2 := (tbl_cht hx).le (i := c + 1) (j := x.2.1 + 1) (by omega) (Nat.le_refl _)
  rw [(tbl_cht hx).2, bg_s] at h2
  omega
theorem q_usesCh (hV : VA A) (hM : MR A a) (hx : tbl A 0 = some x) {c w : Nat} (hc : c ≤ x.2.1) (hw : w < 2 ^ 31) : F_X11_usesIn (nI w) (nI (bg (tbl A) c)) (nI (en (tbl A) (bg (tbl A) c))) a = some (nI (cu A c w)) := by
  have h1 := ch_rng hx hc
  exact q_usesIn hV hM hw (by omega) h1.2
theorem q_chaptersOf (hV : VA A) (hM : MR A a) (hx : tbl A 0 = some x) (hR : RB A W C E) {w : Nat} (hw : w < 2 ^ 31) : F_X11_chaptersOf (nI w) a C E = some (nI (spr A w (x.2.1 + 1))) := by
  have hn := hV.n
  have hK := (tbl_cht hx).K
  have h0 := (hR.z hx).2.1
  unfold F_X11_chaptersOf
  refine ob1_t (whf (fun j => (nI (spr A w j), nI j)) 0 (x.2.1 + 1) rfl (by omega) (by omega) (fun j _ hj k => ?_) (fun k => ?_)) rfl
  · have h1 := ch_rng hx (c := j) (by omega)
    have h2 := hR.en hx (k := j) (by omega)
    have h3 := q_usesCh hV hM hx (c := j) (by omega) hw
    have h4 := cu_le hV hx (c := j) (by omega) (w := w)
    by_cases h5 : 0 < cu A j w
    · rw [spr_s, if_pos h5]
      simp (disch := omega) only [fa_lit, fa_litL, nI_add, pk_mul, pk_sub, nI_clamp, gi_n, gb_0, gb_1, nI_ltI, nI_leI, nI_eq, lc_lt, lc_gt, lc_ge, lc_le, lc_eq, lN_i, nI_l, lN_add, lN_mul, lN_lt, lN_le, lN_eq, mI_eqR, mI_eqL, mI_ltL, mI_ltR, mI_leL, mI_leR, mI_add, ob1_some, ob2_some, ob3_some, ob4_some, ob5_some, ob6_some, ob7_some, ob8_some, if_true, if_false, if_pos, if_neg, Sum.elim_inl, Sum.elim_inr, un1, un2, un3, un4, un5, Nat.zero_add, Nat.add_zero, Nat.mul_one, Nat.mul_zero, Nat.sub_zero, pk_us, pk_uLs, xoq_l, xoq_r, nI_sle, S_X11_chaptersOf_4, h0, q_beginOf hV hx hR, h2, h3]
    · rw [spr_s, if_neg h5]
      simp (disch := omega) only [fa_lit, fa_litL, nI_add, pk_mul, pk_sub, nI_clamp, gi_n, gb_0, gb_1, nI_ltI, nI_leI, nI_eq, lc_lt, lc_gt, lc_ge, lc_le, lc_eq, lN_i, nI_l, lN_add, lN_mul, lN_lt, lN_le, lN_eq, mI_eqR, mI_eqL, mI_ltL, mI_ltR, mI_leL, mI_leR, mI_add, ob1_some, ob2_some, ob3_some, ob4_some, ob5_some, ob6_some, ob7_some, ob8_some, if_true, if_false, if_pos, if_neg, Sum.elim_inl, Sum.elim_inr, un1, un2, un3, un4, un5, Nat.zero_add, Nat.add_zero, Nat.mul_one, Nat.mul_zero, Nat.sub_zero, pk_us, pk_uLs, xoq_l, xoq_r, nI_sle, S_X11_chaptersOf_4, h0, q_beginOf hV hx hR, h2, h3]
  · simp (disch := omega) only [fa_lit, fa_litL, nI_add, pk_mul, pk_sub, nI_clamp, gi_n, gb_0, gb_1, nI_ltI, nI_leI, nI_eq, lc_lt, lc_gt, lc_ge, lc_le, lc_eq, lN_i, nI_l, lN_add, lN_mul, lN_lt, lN_le, lN_eq, mI_eqR, mI_eqL, mI_ltL, mI_ltR, mI_leL, mI_leR, mI_add, ob1_some, ob2_some, ob3_some, ob4_some, ob5_some, ob6_some, ob7_some, ob8_some, if_true, if_false, if_pos, if_neg, Sum.elim_inl, Sum.elim_inr, un1, un2, un3, un4, un5, Nat.zero_add, Nat.add_zero, Nat.mul_one, Nat.mul_zero, Nat.sub_zero, pk_us, pk_uLs, xoq_l, xoq_r, nI_sle, S_X11_chaptersOf_4, h0]
theorem q_markOf (hV : VA A) (hM : MR A a) (hx : tbl A 0 = some x) (hR : RB A W C E) {c w : Nat} (hc : c ≤ x.2.1) (hw : w < 2 ^ 31) : F_X11_markOf (nI c) (nI w) a C E = some (nI (mk A x.2.1 c w)) := by
  have hn := hV.n
  have hK := (tbl_cht hx).K
  have h1 := ch_rng hx hc
  have h2 := hR.en hx hc
  have h3 := q_usesCh hV hM hx hc hw
  have h4 := cu_le hV hx hc (w := w)
  have h6 := spr_le A w (x.2.1 + 1)
  unfold mk
  by_cases h5 : cu A c w = 0
  · rw [if_pos h5]
    simp (disch := omega) only [fa_lit, fa_litL, nI_add, pk_mul, pk_sub, nI_clamp, gi_n, gb_0, gb_1, nI_ltI, nI_leI, nI_eq, lc_lt, lc_gt, lc_ge, lc_le, lc_eq, lN_i, nI_l, lN_add, lN_mul, lN_lt, lN_le, lN_eq, mI_eqR, mI_eqL, mI_ltL, mI_ltR, mI_leL, mI_leR, mI_add, ob1_some, ob2_some, ob3_some, ob4_some, ob5_some, ob6_some, ob7_some, ob8_some, if_true, if_false, if_pos, if_neg, Sum.elim_inl, Sum.elim_inr, un1, un2, un3, un4, un5, Nat.zero_add, Nat.add_zero, Nat.mul_one, Nat.mul_zero, Nat.sub_zero, pk_us, pk_uLs, xoq_l, xoq_r, nI_sle, F_X11_markOf, q_beginOf hV hx hR, h2, h3]
  · have h7 := spr_pos (A := A) (w := w) (c := c) (by omega) (x.2.1 + 1) (by omega)
    have h8 : ¬ nI (spr A w (x.2.1 + 1)) = nI 0 := fun h => by
      have := (nI_eq (by omega) (by omega)).mp h
      omega
    rw [if_neg h5]
    simp (disch := omega) only [fa_lit, fa_litL, nI_add, pk_mul, pk_sub, nI_clamp, gi_n, gb_0, gb_1, nI_ltI, nI_leI, nI_eq, lc_lt, lc_gt, lc_ge, lc_le, lc_eq, lN_i, nI_l, lN_add, lN_mul, lN_lt, lN_le, lN_eq, mI_eqR, mI_eqL, mI_ltL, mI_ltR, mI_leL, mI_leR, mI_add, ob1_some, ob2_some, ob3_some, ob4_some, ob5_some, ob6_some, ob7_some, ob8_some, if_true, if_false, if_pos, if_neg, Sum.elim_inl, Sum.elim_inr, un1, un2, un3, un4, un5, Nat.zero_add, Nat.add_zero, Nat.mul_one, Nat.mul_zero, Nat.sub_zero, pk_us, pk_uLs, xoq_l, xoq_r, nI_sle, F_X11_markOf, q_beginOf hV hx hR, h2, h3, q_chaptersOf hV hM hx hR, gzi, h8]
    rw [pk_div (by omega) (by omega) (by omega)]
theorem q_different (hV : VA A) (hM : MR A a) (hx : tbl A 0 = some x) {c : Nat} (hc : c ≤ x.2.1) : F_X11_different (nI (bg (tbl A) c)) (nI (en (tbl A) (bg (tbl A) c))) a = some (nI (dfw A c (A 7))) := by
  have hnw := hV.nw
  unfold F_X11_different
  refine ob1_t (whf (fun j => (nI (dfw A c j), nI j)) 0 (A 7) rfl (by omega) (by omega) (fun j _ hj k => ?_) (fun k => ?_)) rfl
  · have h3 := q_usesCh hV hM hx hc (w := j) (by omega)
    have h4 := cu_le hV hx hc (w := j)
    by_cases h5 : 0 < cu A c j
    · rw [dfw_s, if_pos h5]
      simp (disch := omega) only [fa_lit, fa_litL, nI_add, pk_mul, pk_sub, nI_clamp, gi_n, gb_0, gb_1, nI_ltI, nI_leI, nI_eq, lc_lt, lc_gt, lc_ge, lc_le, lc_eq, lN_i, nI_l, lN_add, lN_mul, lN_lt, lN_le, lN_eq, mI_eqR, mI_eqL, mI_ltL, mI_ltR, mI_leL, mI_leR, mI_add, ob1_some, ob2_some, ob3_some, ob4_some, ob5_some, ob6_some, ob7_some, ob8_some, if_true, if_false, if_pos, if_neg, Sum.elim_inl, Sum.elim_inr, un1, un2, un3, un4, un5, Nat.zero_add, Nat.add_zero, Nat.mul_one, Nat.mul_zero, Nat.sub_zero, pk_us, pk_uLs, xoq_l, xoq_r, nI_sle, S_X11_different_5, hM.at, h3]
    · rw [dfw_s, if_neg h5]
      simp (disch := omega) only [fa_lit, fa_litL, nI_add, pk_mul, pk_sub, nI_clamp, gi_n, gb_0, gb_1, nI_ltI, nI_leI, nI_eq, lc_lt, lc_gt, lc_ge, lc_le, lc_eq, lN_i, nI_l, lN_add, lN_mul, lN_lt, lN_le, lN_eq, mI_eqR, mI_eqL, mI_ltL, mI_ltR, mI_leL, mI_leR, mI_add, ob1_some, ob2_some, ob3_some, ob4_some, ob5_some, ob6_some, ob7_some, ob8_some, if_true, if_false, if_pos, if_neg, Sum.elim_inl, Sum.elim_inr, un1, un2, un3, un4, un5, Nat.zero_add, Nat.add_zero, Nat.mul_one, Nat.mul_zero, Nat.sub_zero, pk_us, pk_uLs, xoq_l, xoq_r, nI_sle, S_X11_different_5, hM.at, h3]
  · simp (disch := omega) only [fa_lit, fa_litL, nI_add, pk_mul, pk_sub, nI_clamp, gi_n, gb_0, gb_1, nI_ltI, nI_leI, nI_eq, lc_lt, lc_gt, lc_ge, lc_le, lc_eq, lN_i, nI_l, lN_add, lN_mul, lN_lt, lN_le, lN_eq, mI_eqR, mI_eqL, mI_ltL, mI_ltR, mI_leL, mI_leR, mI_add, ob1_some, ob2_some, ob3_some, ob4_some, ob5_some, ob6_some, ob7_some, ob8_some, if_true, if_false, if_pos, if_neg, Sum.elim_inl, Sum.elim_inr, un1, un2, un3, un4, un5, Nat.zero_add, Nat.add_zero, Nat.mul_one, Nat.mul_zero, Nat.sub_zero, pk_us, pk_uLs, xoq_l, xoq_r, nI_sle, S_X11_different_5, hM.at]
theorem q_typicalLoop (hV : VA A) (hM : MR A a) (hx : tbl A 0 = some x) (hR : RB A W C E) {c : Nat} {th : Int32} {G : Nat → Int32} {Y : Nat → Int64} (hc : c ≤ x.2.1) : wh (fun k q => S_X11_typical_32 (nI c) (nI (bg (tbl A) c)) th a W C E G Y k q.1 q.2.1 q.2.2) wF (nI (bg (tbl A) c), -nI 1, nI (bg (tbl A) c)) = some (nI (typ A x.2.1 c)) := by
  have hn := hV.n
  have hnw := hV.nw
  have h1 := ch_rng hx hc
  have h2 := hR.en hx hc
  obtain ⟨f, hf⟩ : ∃ f, f = bg (tbl A) c := ⟨_, rfl⟩
  obtain ⟨t, ht⟩ : ∃ t, t = en (tbl A) (bg (tbl A) c) := ⟨_, rfl⟩
  unfold typ
  rw [← ht, ← hf]
  rw [← ht, ← hf] at h1 h2
  refine whf (fun d => (nI (tyi A x.2.1 c f d).1, iI (tyi A x.2.1 c f d).2, nI (f + d))) 0 (t + 1 - f) ?_ (by omega) (by omega) (fun j _ hj k => ?_) (fun k => ?_)
  · have e : -nI 1 = iI (-1) := by rw [iI_n, iI_neg]; rfl
    rw [e]; rfl
  · have g1 := hV.seg (s := f + j) (by omega)
    have g2 : wh (fun k q => S_X11_typical_49 (nI c) (nI f) (nI (tyi A x.2.1 c f j).1) (iI (tyi A x.2.1 c f j).2) (nI (f + j)) th a W C E G Y k q.1 q.2) wF (nI 0, nI 0) = some (nI (tsm A x.2.1 c (f + j) (oA A (f + j) 2))) := by
      refine whf (fun i => (nI (tsm A x.2.1 c (f + j) i), nI i)) 0 (oA A (f + j) 2) rfl (by omega) (by omega) (fun i _ hi k => ?_) (fun k => ?_)
      · have g3 := hV.wd (s := f + j) (k := i) (by omega) hi
        simp (disch := omega) only [fa_lit, fa_litL, nI_add, pk_mul, pk_sub, nI_clamp, gi_n, gb_0, gb_1, nI_ltI, nI_leI, nI_eq, lc_lt, lc_gt, lc_ge, lc_le, lc_eq, lN_i, nI_l, lN_add, lN_mul, lN_lt, lN_le, lN_eq, mI_eqR, mI_eqL, mI_ltL, mI_ltR, mI_leL, mI_leR, mI_add, ob1_some, ob2_some, ob3_some, ob4_some, ob5_some, ob6_some, ob7_some, ob8_some, if_true, if_false, if_pos, if_neg, Sum.elim_inl, Sum.elim_inr, un1, un2, un3, un4, un5, Nat.zero_add, Nat.add_zero, Nat.mul_one, Nat.mul_zero, Nat.sub_zero, pk_us, pk_uLs, xoq_l, xoq_r, nI_sle, S_X11_typical_49, q_of hM, q_markOf hV hM hx hR, tsm_s]
      · simp (disch := omega) only [fa_lit, fa_litL, nI_add, pk_mul, pk_sub, nI_clamp, gi_n, gb_0, gb_1, nI_ltI, nI_leI, nI_eq, lc_lt, lc_gt, lc_ge, lc_le, lc_eq, lN_i, nI_l, lN_add, lN_mul, lN_lt, lN_le, lN_eq, mI_eqR, mI_eqL, mI_ltL, mI_ltR, mI_leL, mI_leR, mI_add, ob1_some, ob2_some, ob3_some, ob4_some, ob5_some, ob6_some, ob7_some, ob8_some, if_true, if_false, if_pos, if_neg, Sum.elim_inl, Sum.elim_inr, un1, un2, un3, un4, un5, Nat.zero_add, Nat.add_zero, Nat.mul_one, Nat.mul_zero, Nat.sub_zero, pk_us, pk_uLs, xoq_l, xoq_r, nI_sle, S_X11_typical_49, q_of hM]
    have g4 := tyi_b hV hx (f := f) hc j (by omega)
    have g5 := tsm_le hV hx hc (s := f + j) (oA A (f + j) 2)
    have g6 : (nI (tsm A x.2.1 c (f + j) (oA A (f + j) 2)) ≤ iI (tyi A x.2.1 c f j).2) = ((tsm A x.2.1 c (f + j) (oA A (f + j) 2) : Int) ≤ (tyi A x.2.1 c f j).2) := by
      rw [iI_n, iI_le (by omega) (by omega) (by omega) (by omega)]
    rw [tyi_s]
    by_cases g7 : (tyi A x.2.1 c f j).2 < tsm A x.2.1 c (f + j) (oA A (f + j) 2)
    · have g8 : iI ((tsm A x.2.1 c (f + j) (oA A (f + j) 2) : Nat) : Int) = nI (tsm A x.2.1 c (f + j) (oA A (f + j) 2)) := (iI_n _).symm
      rw [if_pos g7]
      simp (disch := omega) only [fa_lit, fa_litL, nI_add, pk_mul, pk_sub, nI_clamp, gi_n, gb_0, gb_1, nI_ltI, nI_leI, nI_eq, lc_lt, lc_gt, lc_ge, lc_le, lc_eq, lN_i, nI_l, lN_add, lN_mul, lN_lt, lN_le, lN_eq, mI_eqR, mI_eqL, mI_ltL, mI_ltR, mI_leL, mI_leR, mI_add, ob1_some, ob2_some, ob3_some, ob4_some, ob5_some, ob6_some, ob7_some, ob8_some, if_true, if_false, if_pos, if_neg, Sum.elim_inl, Sum.elim_inr, un1, un2, un3, un4, un5, Nat.zero_add, Nat.add_zero, Nat.mul_one, Nat.mul_zero, Nat.sub_zero, pk_us, pk_uLs, xoq_l, xoq_r, nI_sle, S_X11_typical_32, F_X11_typical_b97, h2, g2, g6, g8, Nat.add_assoc]
    · rw [if_neg g7]
      simp (disch := omega) only [fa_lit, fa_litL, nI_add, pk_mul, pk_sub, nI_clamp, gi_n, gb_0, gb_1, nI_ltI, nI_leI, nI_eq, lc_lt, lc_gt, lc_ge, lc_le, lc_eq, lN_i, nI_l, lN_add, lN_mul, lN_lt, lN_le, lN_eq, mI_eqR, mI_eqL, mI_ltL, mI_ltR, mI_leL, mI_leR, mI_add, ob1_some, ob2_some, ob3_some, ob4_some, ob5_some, ob6_some, ob7_some, ob8_some, if_true, if_false, if_pos, if_neg, Sum.elim_inl, Sum.elim_inr, un1, un2, un3, un4, un5, Nat.zero_add, Nat.add_zero, Nat.mul_one, Nat.mul_zero, Nat.sub_zero, pk_us, pk_uLs, xoq_l, xoq_r, nI_sle, S_X11_typical_32, F_X11_typical_b97, h2, g2, g6, Nat.add_assoc]
  · simp (disch := omega) only [fa_lit, fa_litL, nI_add, pk_mul, pk_sub, nI_clamp, gi_n, gb_0, gb_1, nI_ltI, nI_leI, nI_eq, lc_lt, lc_gt, lc_ge, lc_le, lc_eq, lN_i, nI_l, lN_add, lN_mul, lN_lt, lN_le, lN_eq, mI_eqR, mI_eqL, mI_ltL, mI_ltR, mI_leL, mI_leR, mI_add, ob1_some, ob2_some, ob3_some, ob4_some, ob5_some, ob6_some, ob7_some, ob8_some, if_true, if_false, if_pos, if_neg, Sum.elim_inl, Sum.elim_inr, un1, un2, un3, un4, un5, Nat.zero_add, Nat.add_zero, Nat.mul_one, Nat.mul_zero, Nat.sub_zero, pk_us, pk_uLs, xoq_l, xoq_r, nI_sle, S_X11_typical_32, h2]
theorem shl_1 : ∀ b, b < 24 → nI 1 <<< (nI b &&& nI 31) = nI (2 ^ b) := by decide
theorem fa_or (a b : Nat) : nI a ||| nI b = nI (a ||| b) := by
  apply Int32.toBitVec_inj.1
  show BitVec.ofNat 32 a ||| BitVec.ofNat 32 b = BitVec.ofNat 32 (a ||| b)
  apply BitVec.eq_of_getLsbD_eq
  intro i hi
  simp [hi]
theorem bit_or {m b : Nat} (w : Nat) : ((m ||| 2 ^ b) / 2 ^ w % 2 = 1) ↔ (m / 2 ^ w % 2 = 1 ∨ w = b) := by
  have h1 : ∀ n : Nat, n / 2 ^ w % 2 = 1 ↔ n.testBit w = true := fun n => by
    rw [Nat.testBit_eq_decide_div_mod_eq]
    exact decide_eq_true_iff.symm
  rw [h1, h1, Nat.testBit_or, Nat.testBit_two_pow, Bool.or_eq_true, decide_eq_true_iff]
  exact ⟨fun h => h.imp id Eq.symm, fun h => h.imp id Eq.symm⟩
/-- words that may stand at the next place: those that aren't in the mask -/
def frw (A : Nat → Nat) (c m w : Nat) : Bool := decide (0 < cu A c w) && decide (¬ m / 2 ^ w % 2 = 1)
theorem q_titleIn (hV : VA A) (hM : MR A a) (hx : tbl A 0 = some x) (hR : RB A W C E) {c m : Nat} {x2 l5 : Int32} (hc : c ≤ x.2.1) (hm : m < 2 ^ 24) : wh (fun k q => S_X11_titleWord_20 (nI c) x2 (nI m) l5 a C E k q.1 q.2) wF (-nI 1, nI 0) = some (pI (nxi A x.2.1 c (frw A c m) (A 7))) := by
  have hnw := hV.nw
  refine whf (fun j => (pI (nxi A x.2.1 c (frw A c m) j), nI j)) 0 (A 7) rfl (by omega) (by omega) (fun j _ hj k => ?_) (fun k => ?_)
  · show S_X11_titleWord_20 (nI c) x2 (nI m) l5 a C E k (pI (nxi A x.2.1 c (frw A c m) j)) (nI j) = k (pI (nxi A x.2.1 c (frw A c m) (j + 1)), nI (j + 1))
    have h1 := q_has (c := m) (k := j) (by omega) (by omega)
    have h2 := mk_le hV hx hc (w := j)
    have h3 := mk_pos hV hx hc (w := j)
    by_cases h4 : m / 2 ^ j % 2 = 1
    · rw [bI_1 h4] at h1
      rw [nxi_s, if_neg (by unfold frw; rw [decide_eq_false (p := ¬ m / 2 ^ j % 2 = 1) (fun h => h h4), Bool.and_false]; decide)]
      simp (disch := omega) only [fa_lit, fa_litL, nI_add, pk_mul, pk_sub, nI_clamp, gi_n, gb_0, gb_1, nI_ltI, nI_leI, nI_eq, lc_lt, lc_gt, lc_ge, lc_le, lc_eq, lN_i, nI_l, lN_add, lN_mul, lN_lt, lN_le, lN_eq, mI_eqR, mI_eqL, mI_ltL, mI_ltR, mI_leL, mI_leR, mI_add, ob1_some, ob2_some, ob3_some, ob4_some, ob5_some, ob6_some, ob7_some, ob8_some, if_true, if_false, if_pos, if_neg, Sum.elim_inl, Sum.elim_inr, un1, un2, un3, un4, un5, Nat.zero_add, Nat.add_zero, Nat.mul_one, Nat.mul_zero, Nat.sub_zero, pk_us, pk_uLs, xoq_l, xoq_r, nI_sle, S_X11_titleWord_20, hM.at, h1]
    · rw [bI_0 h4] at h1
      by_cases h5 : 0 < cu A c j
      · have h6 : ¬ mk A x.2.1 c j = 0 := fun h => by rw [h3] at h; omega
        have h7 : frw A c m j = true := by unfold frw; rw [decide_eq_true h5, decide_eq_true h4]; rfl
        rw [nxi_s, if_pos h7]
        cases hv : nxi A x.2.1 c (frw A c m) j with
        | none => simp (disch := omega) only [fa_lit, fa_litL, nI_add, pk_mul, pk_sub, nI_clamp, gi_n, gb_0, gb_1, nI_ltI, nI_leI, nI_eq, lc_lt, lc_gt, lc_ge, lc_le, lc_eq, lN_i, nI_l, lN_add, lN_mul, lN_lt, lN_le, lN_eq, mI_eqR, mI_eqL, mI_ltL, mI_ltR, mI_leL, mI_leR, mI_add, ob1_some, ob2_some, ob3_some, ob4_some, ob5_some, ob6_some, ob7_some, ob8_some, if_true, if_false, if_pos, if_neg, Sum.elim_inl, Sum.elim_inr, un1, un2, un3, un4, un5, Nat.zero_add, Nat.add_zero, Nat.mul_one, Nat.mul_zero, Nat.sub_zero, pk_us, pk_uLs, xoq_l, xoq_r, nI_sle, S_X11_titleWord_20, hM.at, h1, q_markOf hV hM hx hR, pI]
        | some v =>
          have hl := nxi_lt hv
          have h8 := mk_le hV hx hc (w := v)
          dsimp only
          by_cases h9 : mk A x.2.1 c v < mk A x.2.1 c j
          · rw [if_pos h9]
            simp (disch := omega) only [fa_lit, fa_litL, nI_add, pk_mul, pk_sub, nI_clamp, gi_n, gb_0, gb_1, nI_ltI, nI_leI, nI_eq, lc_lt, lc_gt, lc_ge, lc_le, lc_eq, lN_i, nI_l, lN_add, lN_mul, lN_lt, lN_le, lN_eq, mI_eqR, mI_eqL, mI_ltL, mI_ltR, mI_leL, mI_leR, mI_add, ob1_some, ob2_some, ob3_some, ob4_some, ob5_some, ob6_some, ob7_some, ob8_some, if_true, if_false, if_pos, if_neg, Sum.elim_inl, Sum.elim_inr, un1, un2, un3, un4, un5, Nat.zero_add, Nat.add_zero, Nat.mul_one, Nat.mul_zero, Nat.sub_zero, pk_us, pk_uLs, xoq_l, xoq_r, nI_sle, S_X11_titleWord_20, hM.at, h1, q_markOf hV hM hx hR, pI]
          · rw [if_neg h9]
            simp (disch := omega) only [fa_lit, fa_litL, nI_add, pk_mul, pk_sub, nI_clamp, gi_n, gb_0, gb_1, nI_ltI, nI_leI, nI_eq, lc_lt, lc_gt, lc_ge, lc_le, lc_eq, lN_i, nI_l, lN_add, lN_mul, lN_lt, lN_le, lN_eq, mI_eqR, mI_eqL, mI_ltL, mI_ltR, mI_leL, mI_leR, mI_add, ob1_some, ob2_some, ob3_some, ob4_some, ob5_some, ob6_some, ob7_some, ob8_some, if_true, if_false, if_pos, if_neg, Sum.elim_inl, Sum.elim_inr, un1, un2, un3, un4, un5, Nat.zero_add, Nat.add_zero, Nat.mul_one, Nat.mul_zero, Nat.sub_zero, pk_us, pk_uLs, xoq_l, xoq_r, nI_sle, S_X11_titleWord_20, hM.at, h1, q_markOf hV hM hx hR, pI]
      · have h6 : mk A x.2.1 c j = 0 := by rw [h3]; omega
        rw [nxi_s, if_neg (by unfold frw; rw [decide_eq_false h5, Bool.false_and]; decide)]
        simp (disch := omega) only [fa_lit, fa_litL, nI_add, pk_mul, pk_sub, nI_clamp, gi_n, gb_0, gb_1, nI_ltI, nI_leI, nI_eq, lc_lt, lc_gt, lc_ge, lc_le, lc_eq, lN_i, nI_l, lN_add, lN_mul, lN_lt, lN_le, lN_eq, mI_eqR, mI_eqL, mI_ltL, mI_ltR, mI_leL, mI_leR, mI_add, ob1_some, ob2_some, ob3_some, ob4_some, ob5_some, ob6_some, ob7_some, ob8_some, if_true, if_false, if_pos, if_neg, Sum.elim_inl, Sum.elim_inr, un1, un2, un3, un4, un5, Nat.zero_add, Nat.add_zero, Nat.mul_one, Nat.mul_zero, Nat.sub_zero, pk_us, pk_uLs, xoq_l, xoq_r, nI_sle, S_X11_titleWord_20, hM.at, h1, q_markOf hV hM hx hR, h6]
  · simp (disch := omega) only [fa_lit, fa_litL, nI_add, pk_mul, pk_sub, nI_clamp, gi_n, gb_0, gb_1, nI_ltI, nI_leI, nI_eq, lc_lt, lc_gt, lc_ge, lc_le, lc_eq, lN_i, nI_l, lN_add, lN_mul, lN_lt, lN_le, lN_eq, mI_eqR, mI_eqL, mI_ltL, mI_ltR, mI_leL, mI_leR, mI_add, ob1_some, ob2_some, ob3_some, ob4_some, ob5_some, ob6_some, ob7_some, ob8_some, if_true, if_false, if_pos, if_neg, Sum.elim_inl, Sum.elim_inr, un1, un2, un3, un4, un5, Nat.zero_add, Nat.add_zero, Nat.mul_one, Nat.mul_zero, Nat.sub_zero, pk_us, pk_uLs, xoq_l, xoq_r, nI_sle, S_X11_titleWord_20, hM.at]
theorem q_titleWord (hV : VA A) (hM : MR A a) (hx : tbl A 0 = some x) (hR : RB A W C E) {c k : Nat} (hc : c ≤ x.2.1) (hk : k < 1000) : F_X11_titleWord (nI c) (nI k) a C E = some (pI (twd A x.2.1 c k)) := by
  have hnw := hV.nw
  have key : wh (fun k' q => S_X11_titleWord_8 (nI c) (nI k) a C E k' q.1 q.2.1 q.2.2) wF (nI 0, -nI 1, nI 0) = some (match twd A x.2.1 c k with | none => .inl () | some v => .inr (nI v)) := by
    refine wh_up (k + 1) (by omega) (fun (j : Nat) (q : Int32 × Int32 × Int32) => ∃ m l, q = (nI m, l, nI j) ∧ m < 2 ^ 24 ∧ (j = 0 → m = 0) ∧ ∀ i, j = i + 1 → ∃ v, twd A x.2.1 c i = some v ∧ l = nI v ∧ ∀ w, 0 < cu A c w → (¬ m / 2 ^ w % 2 = 1 ↔ prc A x.2.1 c v w)) (fun (o : Option ((Unit) ⊕ (Int32))) => o = some (match twd A x.2.1 c k with | none => .inl () | some v => .inr (nI v))) (fun j q hj hI k' hk' => ?_) (Nat.zero_le _) ⟨0, -nI 1, rfl, by omega, fun _ => rfl, fun i h => by omega⟩
    obtain ⟨m, l, rfl, h1, h2, h3⟩ := hI
    show S_X11_titleWord_8 (nI c) (nI k) a C E k' (nI m) l (nI j) = _
    by_cases hlt : j < k + 1
    · have g1 := q_titleIn (x2 := nI k) (l5 := nI j) hV hM hx hR hc h1
      have g2 : nxi A x.2.1 c (frw A c m) (A 7) = twd A x.2.1 c j := by
        cases j with
        | zero =>
          have h4 := h2 rfl
          subst h4
          refine nxi_congr _ (fun w _ => ?_)
          unfold frw aft
          rw [Nat.zero_div]; rfl
        | succ i =>
          obtain ⟨v, f1, f2, f3⟩ := h3 i rfl
          show _ = (match twd A x.2.1 c i with | none => none | some v => nxi A x.2.1 c (aft A x.2.1 c (some v)) (A 7))
          rw [f1]
          refine nxi_congr _ (fun w _ => ?_)
          by_cases h5 : 0 < cu A c w
          · have f4 := f3 w h5
            unfold frw
            rw [decide_eq_true h5, Bool.true_and]
            by_cases h6 : m / 2 ^ w % 2 = 1
            · rw [decide_eq_false (fun h => h h6)]
              rcases h : aft A x.2.1 c (some v) w with _ | _
              · rfl
              · exact absurd (f4.mpr (aft_some.mp h).2) (fun h => h h6)
            · rw [decide_eq_true h6]
              exact (aft_some.mpr ⟨h5, f4.mp h6⟩).symm
          · unfold frw aft
            rw [decide_eq_false h5]; rfl
      rw [g2] at g1
      cases hv : twd A x.2.1 c j with
      | none =>
        have h4 := twd_no hv (k - j)
        rw [show j + (k - j) = k by omega] at h4
        rw [hv] at g1
        have g1 : wh (fun k_1 q => S_X11_titleWord_20 (nI c) (nI k) (nI m) (nI j) a C E k_1 q.1 q.2) wF (-nI 1, nI 0) = some (-nI 1) := g1
        rw [h4]
        simp (disch := omega) only [fa_lit, fa_litL, nI_add, pk_mul, pk_sub, nI_clamp, gi_n, gb_0, gb_1, nI_ltI, nI_leI, nI_eq, lc_lt, lc_gt, lc_ge, lc_le, lc_eq, lN_i, nI_l, lN_add, lN_mul, lN_lt, lN_le, lN_eq, mI_eqR, mI_eqL, mI_ltL, mI_ltR, mI_leL, mI_leR, mI_add, ob1_some, ob2_some, ob3_some, ob4_some, ob5_some, ob6_some, ob7_some, ob8_some, if_true, if_false, if_pos, if_neg, Sum.elim_inl, Sum.elim_inr, un1, un2, un3, un4, un5, Nat.zero_add, Nat.add_zero, Nat.mul_one, Nat.mul_zero, Nat.sub_zero, pk_us, pk_uLs, xoq_l, xoq_r, nI_sle, S_X11_titleWord_8, g1]
      | some v =>
        have h4 := twd_lt j v hv
        rw [hv] at g1
        have g1 : wh (fun k_1 q => S_X11_titleWord_20 (nI c) (nI k) (nI m) (nI j) a C E k_1 q.1 q.2) wF (-nI 1, nI 0) = some (nI v) := g1
        have h5 : m ||| 2 ^ v < 2 ^ 24 := Nat.or_lt_two_pow h1 (Nat.pow_lt_pow_right (by omega) (by omega))
        have hsp := (nxi_spec (A := A) (K := x.2.1) (c := c) (P := frw A c m) (A 7)).2 v (by rw [g2, hv])
        have h9 := hk' hlt (nI (m ||| 2 ^ v), nI v, nI (j + 1)) ⟨m ||| 2 ^ v, nI v, rfl, h5, fun h => by omega, fun i hi => ?_⟩
        · have e1 := shl_1 v (by omega)
          simp (disch := omega) only [fa_lit, fa_litL, nI_add, pk_mul, pk_sub, nI_clamp, gi_n, gb_0, gb_1, nI_ltI, nI_leI, nI_eq, lc_lt, lc_gt, lc_ge, lc_le, lc_eq, lN_i, nI_l, lN_add, lN_mul, lN_lt, lN_le, lN_eq, mI_eqR, mI_eqL, mI_ltL, mI_ltR, mI_leL, mI_leR, mI_add, ob1_some, ob2_some, ob3_some, ob4_some, ob5_some, ob6_some, ob7_some, ob8_some, if_true, if_false, if_pos, if_neg, Sum.elim_inl, Sum.elim_inr, un1, un2, un3, un4, un5, Nat.zero_add, Nat.add_zero, Nat.mul_one, Nat.mul_zero, Nat.sub_zero, pk_us, pk_uLs, xoq_l, xoq_r, nI_sle, S_X11_titleWord_8, g1, e1, fa_or]
          exact h9
        · have hij : i = j := by omega
          subst hij
          refine ⟨v, hv, rfl, fun w hw => ?_⟩
          rw [bit_or]
          constructor
          · intro h6
            have h7 : ¬ m / 2 ^ w % 2 = 1 := fun h => h6 (Or.inl h)
            have h8 : frw A c m w = true := by unfold frw; rw [decide_eq_true hw, decide_eq_true h7]; rfl
            have hwA : w < A 7 := by
              rcases Nat.lt_or_ge w (A 7) with h | h
              · exact h
              · rw [cu_0 hV hx hc h] at hw; omega
            rcases hsp.2.2 w hwA h8 with h | h
            · exact absurd (Or.inr h) h6
            · exact h
          · intro h6 h7
            rcases h7 with h7 | h7
            · cases i with
              | zero =>
                have h8 := h2 rfl
                subst h8
                rw [Nat.zero_div] at h7; omega
              | succ i =>
                obtain ⟨u, f1, f2, f3⟩ := h3 i rfl
                have f4 : nxi A x.2.1 c (aft A x.2.1 c (some u)) (A 7) = some v := by
                  have f5 : twd A x.2.1 c (i + 1) = (match twd A x.2.1 c i with | none => none | some v => nxi A x.2.1 c (aft A x.2.1 c (some v)) (A 7)) := rfl
                  rw [f1, hv] at f5
                  exact f5.symm
                have f6 := ((nxi_spec (A 7)).2 v f4).2.1
                have f7 := prc_tr (aft_some.mp f6).2 h6
                exact (f3 w hw).mpr f7 h7
            · subst h7; exact prc_ir h6
    · have h8 : j = k + 1 := by omega
      subst h8
      obtain ⟨v, f1, f2, f3⟩ := h3 k rfl
      subst f2
      rw [f1]
      simp (disch := omega) only [fa_lit, fa_litL, nI_add, pk_mul, pk_sub, nI_clamp, gi_n, gb_0, gb_1, nI_ltI, nI_leI, nI_eq, lc_lt, lc_gt, lc_ge, lc_le, lc_eq, lN_i, nI_l, lN_add, lN_mul, lN_lt, lN_le, lN_eq, mI_eqR, mI_eqL, mI_ltL, mI_ltR, mI_leL, mI_leR, mI_add, ob1_some, ob2_some, ob3_some, ob4_some, ob5_some, ob6_some, ob7_some, ob8_some, if_true, if_false, if_pos, if_neg, Sum.elim_inl, Sum.elim_inr, un1, un2, un3, un4, un5, Nat.zero_add, Nat.add_zero, Nat.mul_one, Nat.mul_zero, Nat.sub_zero, pk_us, pk_uLs, xoq_l, xoq_r, nI_sle, S_X11_titleWord_8]
  unfold F_X11_titleWord
  simp only [fa_lit]
  rw [key]
  cases twd A x.2.1 c k with
  | none => rfl
  | some v => rfl
end
