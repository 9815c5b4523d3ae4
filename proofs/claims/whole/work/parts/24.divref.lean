/-! ===== divisions, by the reference ===== -/
def wIn (n : Nat) (ok : Nat → Nat → Bool) (T : Nat → Int64) (s : Nat) : Nat → Int64
  | 0 => lN 0
  | j + 1 => if ok s (s + j) = true then wIn n ok T s j + (if s + j + 1 = n then lN 1 else T (s + j + 1)) else wIn n ok T s j
theorem wIn_s (n : Nat) (ok : Nat → Nat → Bool) (T : Nat → Int64) (s j : Nat) : wIn n ok T s (j + 1) = if ok s (s + j) = true then wIn n ok T s j + (if s + j + 1 = n then lN 1 else T (s + j + 1)) else wIn n ok T s j := rfl
def wTb (n : Nat) (ok : Nat → Nat → Bool) : Nat → Nat → Int64
  | 0 => fun _ => lN 0
  | d + 1 => fun s => if s = n - (d + 1) then wIn n ok (wTb n ok d) s (d + 1) else wTb n ok d s
theorem wTb_0 (n : Nat) (ok : Nat → Nat → Bool) (d : Nat) : wTb n ok (d + 1) (n - (d + 1)) = wIn n ok (wTb n ok d) (n - (d + 1)) (d + 1) := if_pos rfl
theorem wTb_n (n : Nat) (ok : Nat → Nat → Bool) {d t : Nat} (h : t ≠ n - (d + 1)) : wTb n ok (d + 1) t = wTb n ok d t := if_neg h
section
variable {A : Nat → Nat} {st chg : Nat → Int32} {a : Nat → Int64}
theorem q_isInK {x lo hi : Nat} (h : x < 2 ^ 31) (h1 : lo < 2 ^ 31) (h2 : hi < 2 ^ 31) : F_X11_isIn (lN x) (lN lo) (lN hi) = some (bI (lo ≤ x ∧ x ≤ hi)) := by
  rw [q_isIn]
  exact congrArg some (bI_c (by rw [lN_le h1 h, lN_le h h2]))
theorem q_isChapter (hV : VA A) (hM : MR A a) {w b s e : Nat} (hse : s ≤ e) (he : e < A 6) : F_X11_isChapter (nI s) (nI e) (rI w 32) (rI b 32) a = some (bI (okc A w b s e = true)) := by
  have hn := hV.n
  have hm := sp_mono A (s := s) (t := e + 1) (by omega)
  have hb := sp_b hV (s := e + 1) (by omega)
  have h0 := hV.s0
  have h1 := hV.s1
  have e42 : F_X11_isChapter_b42 (nI s) (nI e) a = some (bI (lg A s e)) := by
    simp (disch := omega) only [fa_lit, fa_litL, nI_add, pk_mul, pk_sub, nI_clamp, gi_n, gb_0, gb_1, nI_ltI, nI_leI, nI_eq, lc_lt, lc_gt, lc_ge, lc_le, lc_eq, lN_i, nI_l, lN_add, lN_mul, lN_lt, lN_le, lN_eq, mI_eqR, mI_eqL, mI_ltL, mI_ltR, mI_leL, mI_leR, mI_add, ob1_some, ob2_some, ob3_some, ob4_some, ob5_some, ob6_some, ob7_some, ob8_some, if_true, if_false, if_pos, if_neg, Sum.elim_inl, Sum.elim_inr, un1, un2, un3, un4, un5, Nat.zero_add, Nat.add_zero, Nat.mul_one, Nat.mul_zero, Nat.sub_zero, pk_us, pk_uLs, xoq_l, xoq_r, nI_sle, F_X11_isChapter_b42, q_spoken hV hM, hM.at, q_isInK, gb_b]
    exact congrArg some (bI_c ⟨fun h => ⟨by omega, by omega⟩, fun h => ⟨by omega, by omega⟩⟩)
  have e24 : e ≠ b → F_X11_isChapter_b24 (nI s) (nI e) (rI b 32) a = some (bI (lg A s e)) := fun h3 => by
    by_cases h4 : b < 32
    · simp (disch := omega) only [fa_lit, fa_litL, nI_add, pk_mul, pk_sub, nI_clamp, gi_n, gb_0, gb_1, nI_ltI, nI_leI, nI_eq, lc_lt, lc_gt, lc_ge, lc_le, lc_eq, lN_i, nI_l, lN_add, lN_mul, lN_lt, lN_le, lN_eq, mI_eqR, mI_eqL, mI_ltL, mI_ltR, mI_leL, mI_leR, mI_add, ob1_some, ob2_some, ob3_some, ob4_some, ob5_some, ob6_some, ob7_some, ob8_some, if_true, if_false, if_pos, if_neg, Sum.elim_inl, Sum.elim_inr, un1, un2, un3, un4, un5, Nat.zero_add, Nat.add_zero, Nat.mul_one, Nat.mul_zero, Nat.sub_zero, pk_us, pk_uLs, xoq_l, xoq_r, nI_sle, F_X11_isChapter_b24, w_no, w_eq, e42]
    · simp (disch := omega) only [fa_lit, fa_litL, nI_add, pk_mul, pk_sub, nI_clamp, gi_n, gb_0, gb_1, nI_ltI, nI_leI, nI_eq, lc_lt, lc_gt, lc_ge, lc_le, lc_eq, lN_i, nI_l, lN_add, lN_mul, lN_lt, lN_le, lN_eq, mI_eqR, mI_eqL, mI_ltL, mI_ltR, mI_leL, mI_leR, mI_add, ob1_some, ob2_some, ob3_some, ob4_some, ob5_some, ob6_some, ob7_some, ob8_some, if_true, if_false, if_pos, if_neg, Sum.elim_inl, Sum.elim_inr, un1, un2, un3, un4, un5, Nat.zero_add, Nat.add_zero, Nat.mul_one, Nat.mul_zero, Nat.sub_zero, pk_us, pk_uLs, xoq_l, xoq_r, nI_sle, F_X11_isChapter_b24, w_no, w_eq, e42]
  by_cases h2 : s ≤ w ∧ w < e
  · rw [bI_0 (fun h => (okc_iff.mp h).2.1 h2)]
    simp (disch := omega) only [fa_lit, fa_litL, nI_add, pk_mul, pk_sub, nI_clamp, gi_n, gb_0, gb_1, nI_ltI, nI_leI, nI_eq, lc_lt, lc_gt, lc_ge, lc_le, lc_eq, lN_i, nI_l, lN_add, lN_mul, lN_lt, lN_le, lN_eq, mI_eqR, mI_eqL, mI_ltL, mI_ltR, mI_leL, mI_leR, mI_add, ob1_some, ob2_some, ob3_some, ob4_some, ob5_some, ob6_some, ob7_some, ob8_some, if_true, if_false, if_pos, if_neg, Sum.elim_inl, Sum.elim_inr, un1, un2, un3, un4, un5, Nat.zero_add, Nat.add_zero, Nat.mul_one, Nat.mul_zero, Nat.sub_zero, pk_us, pk_uLs, xoq_l, xoq_r, nI_sle, F_X11_isChapter, w_no, w_lt, w_gt]
  · by_cases h3 : e = b
    · rw [bI_0 (fun h => (okc_iff.mp h).2.2 h3)]
      have e25 : F_X11_isChapter_b24 (nI s) (nI e) (rI b 32) a = some (nI 0) := by
        simp (disch := omega) only [fa_lit, fa_litL, nI_add, pk_mul, pk_sub, nI_clamp, gi_n, gb_0, gb_1, nI_ltI, nI_leI, nI_eq, lc_lt, lc_gt, lc_ge, lc_le, lc_eq, lN_i, nI_l, lN_add, lN_mul, lN_lt, lN_le, lN_eq, mI_eqR, mI_eqL, mI_ltL, mI_ltR, mI_leL, mI_leR, mI_add, ob1_some, ob2_some, ob3_some, ob4_some, ob5_some, ob6_some, ob7_some, ob8_some, if_true, if_false, if_pos, if_neg, Sum.elim_inl, Sum.elim_inr, un1, un2, un3, un4, un5, Nat.zero_add, Nat.add_zero, Nat.mul_one, Nat.mul_zero, Nat.sub_zero, pk_us, pk_uLs, xoq_l, xoq_r, nI_sle, F_X11_isChapter_b24, w_no, w_eq]
      by_cases h4 : w < 32
      · by_cases h5 : s ≤ w
        · simp (disch := omega) only [fa_lit, fa_litL, nI_add, pk_mul, pk_sub, nI_clamp, gi_n, gb_0, gb_1, nI_ltI, nI_leI, nI_eq, lc_lt, lc_gt, lc_ge, lc_le, lc_eq, lN_i, nI_l, lN_add, lN_mul, lN_lt, lN_le, lN_eq, mI_eqR, mI_eqL, mI_ltL, mI_ltR, mI_leL, mI_leR, mI_add, ob1_some, ob2_some, ob3_some, ob4_some, ob5_some, ob6_some, ob7_some, ob8_some, if_true, if_false, if_pos, if_neg, Sum.elim_inl, Sum.elim_inr, un1, un2, un3, un4, un5, Nat.zero_add, Nat.add_zero, Nat.mul_one, Nat.mul_zero, Nat.sub_zero, pk_us, pk_uLs, xoq_l, xoq_r, nI_sle, F_X11_isChapter, w_no, w_lt, w_gt, e25]
        · simp (disch := omega) only [fa_lit, fa_litL, nI_add, pk_mul, pk_sub, nI_clamp, gi_n, gb_0, gb_1, nI_ltI, nI_leI, nI_eq, lc_lt, lc_gt, lc_ge, lc_le, lc_eq, lN_i, nI_l, lN_add, lN_mul, lN_lt, lN_le, lN_eq, mI_eqR, mI_eqL, mI_ltL, mI_ltR, mI_leL, mI_leR, mI_add, ob1_some, ob2_some, ob3_some, ob4_some, ob5_some, ob6_some, ob7_some, ob8_some, if_true, if_false, if_pos, if_neg, Sum.elim_inl, Sum.elim_inr, un1, un2, un3, un4, un5, Nat.zero_add, Nat.add_zero, Nat.mul_one, Nat.mul_zero, Nat.sub_zero, pk_us, pk_uLs, xoq_l, xoq_r, nI_sle, F_X11_isChapter, w_no, w_lt, w_gt, e25]
      · simp (disch := omega) only [fa_lit, fa_litL, nI_add, pk_mul, pk_sub, nI_clamp, gi_n, gb_0, gb_1, nI_ltI, nI_leI, nI_eq, lc_lt, lc_gt, lc_ge, lc_le, lc_eq, lN_i, nI_l, lN_add, lN_mul, lN_lt, lN_le, lN_eq, mI_eqR, mI_eqL, mI_ltL, mI_ltR, mI_leL, mI_leR, mI_add, ob1_some, ob2_some, ob3_some, ob4_some, ob5_some, ob6_some, ob7_some, ob8_some, if_true, if_false, if_pos, if_neg, Sum.elim_inl, Sum.elim_inr, un1, un2, un3, un4, un5, Nat.zero_add, Nat.add_zero, Nat.mul_one, Nat.mul_zero, Nat.sub_zero, pk_us, pk_uLs, xoq_l, xoq_r, nI_sle, F_X11_isChapter, w_no, w_lt, w_gt, e25]
    · have e26 := e24 h3
      rw [bI_c (show okc A w b s e = true ↔ lg A s e from ⟨fun h => (okc_iff.mp h).1, fun h => okc_iff.mpr ⟨h, h2, h3⟩⟩)]
      by_cases h4 : w < 32
      · by_cases h5 : s ≤ w
        · simp (disch := omega) only [fa_lit, fa_litL, nI_add, pk_mul, pk_sub, nI_clamp, gi_n, gb_0, gb_1, nI_ltI, nI_leI, nI_eq, lc_lt, lc_gt, lc_ge, lc_le, lc_eq, lN_i, nI_l, lN_add, lN_mul, lN_lt, lN_le, lN_eq, mI_eqR, mI_eqL, mI_ltL, mI_ltR, mI_leL, mI_leR, mI_add, ob1_some, ob2_some, ob3_some, ob4_some, ob5_some, ob6_some, ob7_some, ob8_some, if_true, if_false, if_pos, if_neg, Sum.elim_inl, Sum.elim_inr, un1, un2, un3, un4, un5, Nat.zero_add, Nat.add_zero, Nat.mul_one, Nat.mul_zero, Nat.sub_zero, pk_us, pk_uLs, xoq_l, xoq_r, nI_sle, F_X11_isChapter, w_no, w_lt, w_gt, e26]
        · simp (disch := omega) only [fa_lit, fa_litL, nI_add, pk_mul, pk_sub, nI_clamp, gi_n, gb_0, gb_1, nI_ltI, nI_leI, nI_eq, lc_lt, lc_gt, lc_ge, lc_le, lc_eq, lN_i, nI_l, lN_add, lN_mul, lN_lt, lN_le, lN_eq, mI_eqR, mI_eqL, mI_ltL, mI_ltR, mI_leL, mI_leR, mI_add, ob1_some, ob2_some, ob3_some, ob4_some, ob5_some, ob6_some, ob7_some, ob8_some, if_true, if_false, if_pos, if_neg, Sum.elim_inl, Sum.elim_inr, un1, un2, un3, un4, un5, Nat.zero_add, Nat.add_zero, Nat.mul_one, Nat.mul_zero, Nat.sub_zero, pk_us, pk_uLs, xoq_l, xoq_r, nI_sle, F_X11_isChapter, w_no, w_lt, w_gt, e26]
      · simp (disch := omega) only [fa_lit, fa_litL, nI_add, pk_mul, pk_sub, nI_clamp, gi_n, gb_0, gb_1, nI_ltI, nI_leI, nI_eq, lc_lt, lc_gt, lc_ge, lc_le, lc_eq, lN_i, nI_l, lN_add, lN_mul, lN_lt, lN_le, lN_eq, mI_eqR, mI_eqL, mI_ltL, mI_ltR, mI_leL, mI_leR, mI_add, ob1_some, ob2_some, ob3_some, ob4_some, ob5_some, ob6_some, ob7_some, ob8_some, if_true, if_false, if_pos, if_neg, Sum.elim_inl, Sum.elim_inr, un1, un2, un3, un4, un5, Nat.zero_add, Nat.add_zero, Nat.mul_one, Nat.mul_zero, Nat.sub_zero, pk_us, pk_uLs, xoq_l, xoq_r, nI_sle, F_X11_isChapter, w_no, w_lt, w_gt, e26]
theorem q_con113 {s e : Nat} {w : Int} {c : Nat} {o : Option (Int × Nat × Nat)} {W C L : Nat → Int32} {Y : Nat → Int64} (hs : s < 32) (he : e < 32) (hw : -100000 ≤ w ∧ w ≤ 100000) (hc : c ≤ 1000) (ho : rowR o (W s) (C s) (L s)) (hob : ∀ x, o = some x → -100000 ≤ x.1 ∧ x.1 ≤ 100000 ∧ x.2.1 ≤ 1000 ∧ x.2.2 < 32) :
    ∃ W' C' L', F_X11_tries_b113 (nI s) (nI e) (iI w) (nI c) W C L Y = some (W', C', L', Y) ∧ rowR (dMg o (some (w, c, e))) (W' s) (C' s) (L' s) ∧ ∀ t, t ≠ s → W' t = W t ∧ C' t = C t ∧ L' t = L t := by
  have up : F_X11_tries_b160 (nI s) (nI e) (iI w) (nI c) W C L Y = some (upd W s (iI w), upd C s (nI c), upd L s (nI e), Y) := by
    simp (disch := omega) only [fa_lit, fa_litL, nI_add, pk_mul, pk_sub, nI_clamp, gi_n, gb_0, gb_1, nI_ltI, nI_leI, nI_eq, lc_lt, lc_gt, lc_ge, lc_le, lc_eq, lN_i, nI_l, lN_add, lN_mul, lN_lt, lN_le, lN_eq, mI_eqR, mI_eqL, mI_ltL, mI_ltR, mI_leL, mI_leR, mI_add, ob1_some, ob2_some, ob3_some, ob4_some, ob5_some, ob6_some, ob7_some, ob8_some, if_true, if_false, if_pos, if_neg, Sum.elim_inl, Sum.elim_inr, un1, un2, un3, un4, un5, Nat.zero_add, Nat.add_zero, Nat.mul_one, Nat.mul_zero, Nat.sub_zero, pk_us, pk_uLs, xoq_l, xoq_r, nI_sle, F_X11_tries_b160, F_X11_tries_b165]
  have no : F_X11_tries_b164 (nI s) (nI e) (iI w) (nI c) W C L Y = some (W, C, L, Y) := by
    simp (disch := omega) only [fa_lit, fa_litL, nI_add, pk_mul, pk_sub, nI_clamp, gi_n, gb_0, gb_1, nI_ltI, nI_leI, nI_eq, lc_lt, lc_gt, lc_ge, lc_le, lc_eq, lN_i, nI_l, lN_add, lN_mul, lN_lt, lN_le, lN_eq, mI_eqR, mI_eqL, mI_ltL, mI_ltR, mI_leL, mI_leR, mI_add, ob1_some, ob2_some, ob3_some, ob4_some, ob5_some, ob6_some, ob7_some, ob8_some, if_true, if_false, if_pos, if_neg, Sum.elim_inl, Sum.elim_inr, un1, un2, un3, un4, un5, Nat.zero_add, Nat.add_zero, Nat.mul_one, Nat.mul_zero, Nat.sub_zero, pk_us, pk_uLs, xoq_l, xoq_r, nI_sle, F_X11_tries_b164, F_X11_tries_b165]
  have hr : rowR (some (w, c, e)) (upd W s (iI w) s) (upd C s (nI c) s) (upd L s (nI e) s) := ⟨pk_us, pk_us, pk_us⟩
  have hk : ∀ t, t ≠ s → upd W s (iI w) t = W t ∧ upd C s (nI c) t = C t ∧ upd L s (nI e) t = L t := fun t ht => ⟨pk_un ht, pk_un ht, pk_un ht⟩
  cases o with
  | none =>
    have h1 : W s = -nI 1000000000 := ho
    refine ⟨_, _, _, ?_, hr, hk⟩
    simp (disch := omega) only [fa_lit, fa_litL, nI_add, pk_mul, pk_sub, nI_clamp, gi_n, gb_0, gb_1, nI_ltI, nI_leI, nI_eq, lc_lt, lc_gt, lc_ge, lc_le, lc_eq, lN_i, nI_l, lN_add, lN_mul, lN_lt, lN_le, lN_eq, mI_eqR, mI_eqL, mI_ltL, mI_ltR, mI_leL, mI_leR, mI_add, ob1_some, ob2_some, ob3_some, ob4_some, ob5_some, ob6_some, ob7_some, ob8_some, if_true, if_false, if_pos, if_neg, Sum.elim_inl, Sum.elim_inr, un1, un2, un3, un4, un5, Nat.zero_add, Nat.add_zero, Nat.mul_one, Nat.mul_zero, Nat.sub_zero, pk_us, pk_uLs, xoq_l, xoq_r, nI_sle, F_X11_tries_b113, h1, up]
  | some x =>
    obtain ⟨xw, xc, xe⟩ := x
    obtain ⟨h1, h2, h3⟩ := ho
    have h4 := hob _ rfl
    dsimp only at h1 h2 h3 h4
    by_cases g1 : xw < w
    · rw [show dMg (some (xw, xc, xe)) (some (w, c, e)) = some (w, c, e) from if_pos (Or.inl g1)]
      refine ⟨_, _, _, ?_, hr, hk⟩
      simp (disch := omega) only [fa_lit, fa_litL, nI_add, pk_mul, pk_sub, nI_clamp, gi_n, gb_0, gb_1, nI_ltI, nI_leI, nI_eq, lc_lt, lc_gt, lc_ge, lc_le, lc_eq, lN_i, nI_l, lN_add, lN_mul, lN_lt, lN_le, lN_eq, mI_eqR, mI_eqL, mI_ltL, mI_ltR, mI_leL, mI_leR, mI_add, ob1_some, ob2_some, ob3_some, ob4_some, ob5_some, ob6_some, ob7_some, ob8_some, if_true, if_false, if_pos, if_neg, Sum.elim_inl, Sum.elim_inr, un1, un2, un3, un4, un5, Nat.zero_add, Nat.add_zero, Nat.mul_one, Nat.mul_zero, Nat.sub_zero, pk_us, pk_uLs, xoq_l, xoq_r, nI_sle, F_X11_tries_b113, h1, h2, h3, iI_lt, far_ne, up]
    · by_cases g2 : w = xw
      · subst g2
        by_cases g3 : c < xc
        · rw [show dMg (some (w, xc, xe)) (some (w, c, e)) = some (w, c, e) from if_pos (Or.inr ⟨rfl, g3⟩)]
          refine ⟨_, _, _, ?_, hr, hk⟩
          simp (disch := omega) only [fa_lit, fa_litL, nI_add, pk_mul, pk_sub, nI_clamp, gi_n, gb_0, gb_1, nI_ltI, nI_leI, nI_eq, lc_lt, lc_gt, lc_ge, lc_le, lc_eq, lN_i, nI_l, lN_add, lN_mul, lN_lt, lN_le, lN_eq, mI_eqR, mI_eqL, mI_ltL, mI_ltR, mI_leL, mI_leR, mI_add, ob1_some, ob2_some, ob3_some, ob4_some, ob5_some, ob6_some, ob7_some, ob8_some, if_true, if_false, if_pos, if_neg, Sum.elim_inl, Sum.elim_inr, un1, un2, un3, un4, un5, Nat.zero_add, Nat.add_zero, Nat.mul_one, Nat.mul_zero, Nat.sub_zero, pk_us, pk_uLs, xoq_l, xoq_r, nI_sle, F_X11_tries_b113, h1, h2, h3, iI_lt, far_ne, up]
        · rw [show dMg (some (w, xc, xe)) (some (w, c, e)) = some (w, xc, xe) from if_neg (fun h => by rcases h with h | h; exact absurd h g1; exact g3 h.2)]
          refine ⟨W, C, L, ?_, ⟨h1, h2, h3⟩, fun t _ => ⟨rfl, rfl, rfl⟩⟩
          simp (disch := omega) only [fa_lit, fa_litL, nI_add, pk_mul, pk_sub, nI_clamp, gi_n, gb_0, gb_1, nI_ltI, nI_leI, nI_eq, lc_lt, lc_gt, lc_ge, lc_le, lc_eq, lN_i, nI_l, lN_add, lN_mul, lN_lt, lN_le, lN_eq, mI_eqR, mI_eqL, mI_ltL, mI_ltR, mI_leL, mI_leR, mI_add, ob1_some, ob2_some, ob3_some, ob4_some, ob5_some, ob6_some, ob7_some, ob8_some, if_true, if_false, if_pos, if_neg, Sum.elim_inl, Sum.elim_inr, un1, un2, un3, un4, un5, Nat.zero_add, Nat.add_zero, Nat.mul_one, Nat.mul_zero, Nat.sub_zero, pk_us, pk_uLs, xoq_l, xoq_r, nI_sle, F_X11_tries_b113, h1, h2, h3, iI_lt, far_ne, no]
      · rw [show dMg (some (xw, xc, xe)) (some (w, c, e)) = some (xw, xc, xe) from if_neg (fun h => by rcases h with h | h; exact absurd h g1; exact g2 h.1)]
        refine ⟨W, C, L, ?_, ⟨h1, h2, h3⟩, fun t _ => ⟨rfl, rfl, rfl⟩⟩
        simp (disch := omega) only [fa_lit, fa_litL, nI_add, pk_mul, pk_sub, nI_clamp, gi_n, gb_0, gb_1, nI_ltI, nI_leI, nI_eq, lc_lt, lc_gt, lc_ge, lc_le, lc_eq, lN_i, nI_l, lN_add, lN_mul, lN_lt, lN_le, lN_eq, mI_eqR, mI_eqL, mI_ltL, mI_ltR, mI_leL, mI_leR, mI_add, ob1_some, ob2_some, ob3_some, ob4_some, ob5_some, ob6_some, ob7_some, ob8_some, if_true, if_false, if_pos, if_neg, Sum.elim_inl, Sum.elim_inr, un1, un2, un3, un4, un5, Nat.zero_add, Nat.add_zero, Nat.mul_one, Nat.mul_zero, Nat.sub_zero, pk_us, pk_uLs, xoq_l, xoq_r, nI_sle, F_X11_tries_b113, h1, h2, h3, iI_lt, iI_eq, far_ne, no]
theorem q_tries {n s e : Nat} {c : Nat → Nat} {T : Nat → Option (Int × Nat × Nat)} {o : Option (Int × Nat × Nat)} {W C L : Nat → Int32} {Y : Nat → Int64} (hM : MR A a) (hn : n ≤ 32) (hse : s ≤ e) (he : e < n) (hp : A 3 ≤ 100) (hc : ∀ e, c e ≤ 100) (hch : ∀ e, e + 1 < n → chg e = nI (c e)) (ho : rowR o (W s) (C s) (L s)) (hob : dB n s o) (hT : e + 1 < n → rowR (T (e + 1)) (W (e + 1)) (C (e + 1)) (L (e + 1))) (hTb : e + 1 < n → dB n (e + 1) (T (e + 1))) :
    ∃ W' C' L', F_X11_tries (nI s) (nI e) (nI n) a W C L chg Y = some (W', C', L', vp_updL Y s (Y s + (if e + 1 = n then lN 1 else Y (e + 1)))) ∧ rowR (dMg o (dCe n (fun e => (c e : Int) - A 3) T e)) (W' s) (C' s) (L' s) ∧ ∀ t, t ≠ s → W' t = W t ∧ C' t = C t ∧ L' t = L t := by
  have hob' : ∀ x, o = some x → -100000 ≤ x.1 ∧ x.1 ≤ 100000 ∧ x.2.1 ≤ 1000 ∧ x.2.2 < 32 := fun x hx => by have := hob x hx; omega
  unfold dCe
  by_cases h : e + 1 = n
  · rw [if_pos h, if_pos h]
    obtain ⟨W', C', L', g1, g2⟩ := q_con113 (s := s) (e := e) (w := 0) (c := 0) (Y := vp_updL Y s (Y s + lN 1)) (by omega) (by omega) (by omega) (by omega) ho hob'
    rw [iI_0] at g1
    refine ⟨W', C', L', ?_, g2⟩
    simp (disch := omega) only [fa_lit, fa_litL, nI_add, pk_mul, pk_sub, nI_clamp, gi_n, gb_0, gb_1, nI_ltI, nI_leI, nI_eq, lc_lt, lc_gt, lc_ge, lc_le, lc_eq, lN_i, nI_l, lN_add, lN_mul, lN_lt, lN_le, lN_eq, mI_eqR, mI_eqL, mI_ltL, mI_ltR, mI_leL, mI_leR, mI_add, ob1_some, ob2_some, ob3_some, ob4_some, ob5_some, ob6_some, ob7_some, ob8_some, if_true, if_false, if_pos, if_neg, Sum.elim_inl, Sum.elim_inr, un1, un2, un3, un4, un5, Nat.zero_add, Nat.add_zero, Nat.mul_one, Nat.mul_zero, Nat.sub_zero, pk_us, pk_uLs, xoq_l, xoq_r, nI_sle, F_X11_tries, F_X11_tries_b12, F_X11_tries_b38, F_X11_tries_b60, F_X11_tries_b92, g1]
  · rw [if_neg h, if_neg h]
    have h2 := hT (by omega)
    have h3 := hTb (by omega)
    cases hTe : T (e + 1) with
    | none =>
      rw [hTe] at h2
      have h4 : W (e + 1) = -nI 1000000000 := h2
      refine ⟨W, C, L, ?_, ?_, fun t _ => ⟨rfl, rfl, rfl⟩⟩
      · simp (disch := omega) only [fa_lit, fa_litL, nI_add, pk_mul, pk_sub, nI_clamp, gi_n, gb_0, gb_1, nI_ltI, nI_leI, nI_eq, lc_lt, lc_gt, lc_ge, lc_le, lc_eq, lN_i, nI_l, lN_add, lN_mul, lN_lt, lN_le, lN_eq, mI_eqR, mI_eqL, mI_ltL, mI_ltR, mI_leL, mI_leR, mI_add, ob1_some, ob2_some, ob3_some, ob4_some, ob5_some, ob6_some, ob7_some, ob8_some, if_true, if_false, if_pos, if_neg, Sum.elim_inl, Sum.elim_inr, un1, un2, un3, un4, un5, Nat.zero_add, Nat.add_zero, Nat.mul_one, Nat.mul_zero, Nat.sub_zero, pk_us, pk_uLs, xoq_l, xoq_r, nI_sle, F_X11_tries, F_X11_tries_b12, F_X11_tries_b38, h4]
      · exact ho
    | some y =>
      rw [hTe] at h2
      obtain ⟨yw, yc, ye⟩ := y
      have h5 := h3 _ hTe
      obtain ⟨h6, h7, h8⟩ := h2
      dsimp only at h5 h6 h7 h8
      have h9 := hc e
      have h10 := hch e (by omega)
      obtain ⟨W', C', L', g1, g2⟩ := q_con113 (s := s) (e := e) (w := (c e : Int) - A 3 + yw) (c := yc + 1) (Y := vp_updL Y s (Y s + Y (e + 1))) (by omega) (by omega) (by omega) (by omega) ho hob'
      refine ⟨W', C', L', ?_, g2⟩
      have e1 : nI (c e) - nI (A 3) + iI yw = iI ((c e : Int) - A 3 + yw) := by rw [nI_iSub, iI_add]
      rw [Nat.add_comm yc 1] at g1
      simp (disch := omega) only [fa_lit, fa_litL, nI_add, pk_mul, pk_sub, nI_clamp, gi_n, gb_0, gb_1, nI_ltI, nI_leI, nI_eq, lc_lt, lc_gt, lc_ge, lc_le, lc_eq, lN_i, nI_l, lN_add, lN_mul, lN_lt, lN_le, lN_eq, mI_eqR, mI_eqL, mI_ltL, mI_ltR, mI_leL, mI_leR, mI_add, ob1_some, ob2_some, ob3_some, ob4_some, ob5_some, ob6_some, ob7_some, ob8_some, if_true, if_false, if_pos, if_neg, Sum.elim_inl, Sum.elim_inr, un1, un2, un3, un4, un5, Nat.zero_add, Nat.add_zero, Nat.mul_one, Nat.mul_zero, Nat.sub_zero, pk_us, pk_uLs, xoq_l, xoq_r, nI_sle, F_X11_tries, F_X11_tries_b12, F_X11_tries_b38, F_X11_tries_b60, F_X11_tries_b92, hM.at, h6, h7, h8, h10, e1, far_ne, g1]
theorem q_laysIn (hV : VA A) (hM : MR A a) {w b s : Nat} {c : Nat → Nat} {T : Nat → Option (Int × Nat × Nat)} {TW : Nat → Int64} {W C L : Nat → Int32} {Y : Nat → Int64} (hs : s < A 6) (hc : ∀ e, c e ≤ 100) (hch : ∀ e, e + 1 < A 6 → chg e = nI (c e)) (hL : W s = -nI 1000000000) (hY : Y s = lN 0) (hT : ∀ t, s < t → t < A 6 → rowR (T t) (W t) (C t) (L t)) (hTY : ∀ t, s < t → t < A 6 → Y t = TW t) (hTb : ∀ t, s < t → t < A 6 → dB (A 6) t (T t)) :
    ∃ W' C' L' Y', wh (fun k q => S_X11_laysDivisions_57 (nI (A 6)) (nI s) (rI w 32) (rI b 32) a chg k q.1 q.2.1 q.2.2.1 q.2.2.2.1 q.2.2.2.2) wF (nI s, W, C, L, Y) = some (W', C', L', Y') ∧ rowR (dIn (A 6) (okc A w b) (fun e => (c e : Int) - A 3) T s (A 6 - s)) (W' s) (C' s) (L' s) ∧ Y' s = wIn (A 6) (okc A w b) TW s (A 6 - s) ∧ ∀ t, t ≠ s → W' t = W t ∧ C' t = C t ∧ L' t = L t ∧ Y' t = Y t := by
  have hn := hV.n
  have hp := hV.s3
  refine wh_up (A 6 - s) (by omega) (fun (j : Nat) (q : Int32 × (Nat → Int32) × (Nat → Int32) × (Nat → Int32) × (Nat → Int64)) => q.1 = nI (s + j) ∧ rowR (dIn (A 6) (okc A w b) (fun e => (c e : Int) - A 3) T s j) (q.2.1 s) (q.2.2.1 s) (q.2.2.2.1 s) ∧ q.2.2.2.2 s = wIn (A 6) (okc A w b) TW s j ∧ ∀ t, t ≠ s → q.2.1 t = W t ∧ q.2.2.1 t = C t ∧ q.2.2.2.1 t = L t ∧ q.2.2.2.2 t = Y t) (fun (o : Option (((Nat → Int32) × (Nat → Int32) × (Nat → Int32) × (Nat → Int64)))) => ∃ W' C' L' Y', o = some (W', C', L', Y') ∧ rowR (dIn (A 6) (okc A w b) (fun e => (c e : Int) - A 3) T s (A 6 - s)) (W' s) (C' s) (L' s) ∧ Y' s = wIn (A 6) (okc A w b) TW s (A 6 - s) ∧ ∀ t, t ≠ s → W' t = W t ∧ C' t = C t ∧ L' t = L t ∧ Y' t = Y t) (fun j q hj hI k hk => ?_) (Nat.zero_le _) ⟨rfl, hL, hY, fun t _ => ⟨rfl, rfl, rfl, rfl⟩⟩
  obtain ⟨l, P1, P2, P3, P4⟩ := q
  obtain ⟨e1, e2, e4, e3⟩ := hI
  have e1 : l = nI (s + j) := e1
  subst e1
  have e2 : rowR (dIn (A 6) (okc A w b) (fun e => (c e : Int) - A 3) T s j) (P1 s) (P2 s) (P3 s) := e2
  have e4 : P4 s = wIn (A 6) (okc A w b) TW s j := e4
  have e3 : ∀ t, t ≠ s → P1 t = W t ∧ P2 t = C t ∧ P3 t = L t ∧ P4 t = Y t := e3
  by_cases hlt : j < A 6 - s
  · have hq := q_isChapter (w := w) (b := b) hV hM (s := s) (e := s + j) (by omega) (by omega)
    by_cases hok : okc A w b s (s + j) = true
    · rw [bI_1 hok] at hq
      have hb := dIn_b (n := A 6) (s := s) (ok := okc A w b) (g := fun e => (c e : Int) - A 3) (T := T) (fun e => by have := hc e; omega) hTb j (by omega)
      obtain ⟨W', C', L', g1, g2, g3⟩ := q_tries (n := A 6) (s := s) (e := s + j) (c := c) (T := T) (chg := chg) (Y := P4) hM hn (by omega) (by omega) hp hc hch e2 hb (fun h => by
        have h4 := e3 (s + j + 1) (by omega)
        rw [h4.1, h4.2.1, h4.2.2.1]
        exact hT _ (by omega) h) (fun h => hTb _ (by omega) h)
      have h9 := hk hlt (nI (s + j + 1), W', C', L', vp_updL P4 s (P4 s + (if s + j + 1 = A 6 then lN 1 else P4 (s + j + 1)))) ⟨rfl, ?_, ?_, fun t ht => ?_⟩
      · simp (disch := omega) only [fa_lit, fa_litL, nI_add, pk_mul, pk_sub, nI_clamp, gi_n, gb_0, gb_1, nI_ltI, nI_leI, nI_eq, lc_lt, lc_gt, lc_ge, lc_le, lc_eq, lN_i, nI_l, lN_add, lN_mul, lN_lt, lN_le, lN_eq, mI_eqR, mI_eqL, mI_ltL, mI_ltR, mI_leL, mI_leR, mI_add, ob1_some, ob2_some, ob3_some, ob4_some, ob5_some, ob6_some, ob7_some, ob8_some, if_true, if_false, if_pos, if_neg, Sum.elim_inl, Sum.elim_inr, un1, un2, un3, un4, un5, Nat.zero_add, Nat.add_zero, Nat.mul_one, Nat.mul_zero, Nat.sub_zero, pk_us, pk_uLs, xoq_l, xoq_r, nI_sle, S_X11_laysDivisions_57, hq, g1]
        exact h9
      · show rowR (dIn (A 6) (okc A w b) (fun e => (c e : Int) - A 3) T s (j + 1)) (W' s) (C' s) (L' s)
        rw [dIn_s, if_pos hok]; exact g2
      · show vp_updL P4 s (P4 s + (if s + j + 1 = A 6 then lN 1 else P4 (s + j + 1))) s = _
        rw [pk_uLs, wIn_s, if_pos hok, e4]
        by_cases h5 : s + j + 1 = A 6
        · rw [if_pos h5, if_pos h5]
        · rw [if_neg h5, if_neg h5, (e3 (s + j + 1) (by omega)).2.2.2, hTY _ (by omega) (by omega)]
      · have h5 := g3 t ht
        have h6 := e3 t ht
        exact ⟨h5.1.trans h6.1, h5.2.1.trans h6.2.1, h5.2.2.trans h6.2.2.1, (pk_uLn ht).trans h6.2.2.2⟩
    · rw [bI_0 hok] at hq
      have h9 := hk hlt (nI (s + j + 1), P1, P2, P3, P4) ⟨rfl, ?_, ?_, e3⟩
      · simp (disch := omega) only [fa_lit, fa_litL, nI_add, pk_mul, pk_sub, nI_clamp, gi_n, gb_0, gb_1, nI_ltI, nI_leI, nI_eq, lc_lt, lc_gt, lc_ge, lc_le, lc_eq, lN_i, nI_l, lN_add, lN_mul, lN_lt, lN_le, lN_eq, mI_eqR, mI_eqL, mI_ltL, mI_ltR, mI_leL, mI_leR, mI_add, ob1_some, ob2_some, ob3_some, ob4_some, ob5_some, ob6_some, ob7_some, ob8_some, if_true, if_false, if_pos, if_neg, Sum.elim_inl, Sum.elim_inr, un1, un2, un3, un4, un5, Nat.zero_add, Nat.add_zero, Nat.mul_one, Nat.mul_zero, Nat.sub_zero, pk_us, pk_uLs, xoq_l, xoq_r, nI_sle, S_X11_laysDivisions_57, hq]
        exact h9
      · show rowR (dIn (A 6) (okc A w b) (fun e => (c e : Int) - A 3) T s (j + 1)) (P1 s) (P2 s) (P3 s)
        rw [dIn_s, if_neg hok]; exact e2
      · show P4 s = _
        rw [wIn_s, if_neg hok, e4]
  · have h8 : j = A 6 - s := by omega
    subst h8
    refine ⟨P1, P2, P3, P4, ?_, e2, e4, e3⟩
    simp (disch := omega) only [fa_lit, fa_litL, nI_add, pk_mul, pk_sub, nI_clamp, gi_n, gb_0, gb_1, nI_ltI, nI_leI, nI_eq, lc_lt, lc_gt, lc_ge, lc_le, lc_eq, lN_i, nI_l, lN_add, lN_mul, lN_lt, lN_le, lN_eq, mI_eqR, mI_eqL, mI_ltL, mI_ltR, mI_leL, mI_leR, mI_add, ob1_some, ob2_some, ob3_some, ob4_some, ob5_some, ob6_some, ob7_some, ob8_some, if_true, if_false, if_pos, if_neg, Sum.elim_inl, Sum.elim_inr, un1, un2, un3, un4, un5, Nat.zero_add, Nat.add_zero, Nat.mul_one, Nat.mul_zero, Nat.sub_zero, pk_us, pk_uLs, xoq_l, xoq_r, nI_sle, S_X11_laysDivisions_57]
/-- the best division's table, by the reference -/
theorem q_lays (hV : VA A) (hM : MR A a) {w b : Nat} {W C L G : Nat → Int32} {Y : Nat → Int64} :
    ∃ W' C' L' G' Y', F_X11_laysDivisions (rI w 32) (rI b 32) a W C L G Y = some (W', C', L', G', Y') ∧ ∀ t, t < A 6 → rowR (dTb (A 6) (okc A w b) (fun e => (ch A e : Int) - A 3) (A 6) t) (W' t) (C' t) (L' t) ∧ Y' t = wTb (A 6) (okc A w b) (A 6) t := by
  have hn := hV.n
  have hp := hV.s3
  have kG : ∃ G', wh (fun k q => S_X11_laysDivisions_7 (nI (A 6)) (rI w 32) (rI b 32) a W C L Y k q.1 q.2) wF (nI 0, G) = some G' ∧ ∀ e, e + 1 < A 6 → G' e = nI (ch A e) := by
    refine wh_up (A 6 - 1) (by omega) (fun (j : Nat) (q : Int32 × (Nat → Int32)) => q.1 = nI j ∧ ∀ e, e < j → q.2 e = nI (ch A e)) (fun (o : Option (((Nat → Int32)))) => ∃ G', o = some G' ∧ ∀ e, e + 1 < A 6 → G' e = nI (ch A e)) (fun j q hj hI k hk => ?_) (Nat.zero_le _) ⟨rfl, fun e h => absurd h (Nat.not_lt_zero e)⟩
    obtain ⟨l, P⟩ := q
    obtain ⟨e1, e2⟩ := hI
    have e1 : l = nI j := e1
    subst e1
    have e2 : ∀ e, e < j → P e = nI (ch A e) := e2
    by_cases hlt : j < A 6 - 1
    · have h9 := hk hlt (nI (j + 1), upd P j (nI (ch A j))) ⟨rfl, fun e he => ?_⟩
      · simp (disch := omega) only [fa_lit, fa_litL, nI_add, pk_mul, pk_sub, nI_clamp, gi_n, gb_0, gb_1, nI_ltI, nI_leI, nI_eq, lc_lt, lc_gt, lc_ge, lc_le, lc_eq, lN_i, nI_l, lN_add, lN_mul, lN_lt, lN_le, lN_eq, mI_eqR, mI_eqL, mI_ltL, mI_ltR, mI_leL, mI_leR, mI_add, ob1_some, ob2_some, ob3_some, ob4_some, ob5_some, ob6_some, ob7_some, ob8_some, if_true, if_false, if_pos, if_neg, Sum.elim_inl, Sum.elim_inr, un1, un2, un3, un4, un5, Nat.zero_add, Nat.add_zero, Nat.mul_one, Nat.mul_zero, Nat.sub_zero, pk_us, pk_uLs, xoq_l, xoq_r, nI_sle, S_X11_laysDivisions_7, q_changeOf hV hM, nI_sle]
        exact h9
      · show upd P j (nI (ch A j)) e = nI (ch A e)
        by_cases h : e = j
        · rw [h, pk_us]
        · rw [pk_un h]; exact e2 e (by omega)
    · refine ⟨P, ?_, fun e he => e2 e (by omega)⟩
      simp (disch := omega) only [fa_lit, fa_litL, nI_add, pk_mul, pk_sub, nI_clamp, gi_n, gb_0, gb_1, nI_ltI, nI_leI, nI_eq, lc_lt, lc_gt, lc_ge, lc_le, lc_eq, lN_i, nI_l, lN_add, lN_mul, lN_lt, lN_le, lN_eq, mI_eqR, mI_eqL, mI_ltL, mI_ltR, mI_leL, mI_leR, mI_add, ob1_some, ob2_some, ob3_some, ob4_some, ob5_some, ob6_some, ob7_some, ob8_some, if_true, if_false, if_pos, if_neg, Sum.elim_inl, Sum.elim_inr, un1, un2, un3, un4, un5, Nat.zero_add, Nat.add_zero, Nat.mul_one, Nat.mul_zero, Nat.sub_zero, pk_us, pk_uLs, xoq_l, xoq_r, nI_sle, S_X11_laysDivisions_7, nI_sle]
  obtain ⟨G', f1, f2⟩ := kG
  have key : ∃ W' C' L' Y', wh (fun k q => S_X11_laysDivisions_35 (nI (A 6)) (rI w 32) (rI b 32) a G' k q.1 q.2.1 q.2.2.1 q.2.2.2.1 q.2.2.2.2) wF (nI (A 6) - nI 1, W, C, L, Y) = some (W', C', L', Y') ∧ ∀ t, t < A 6 → rowR (dTb (A 6) (okc A w b) (fun e => (ch A e : Int) - A 3) (A 6) t) (W' t) (C' t) (L' t) ∧ Y' t = wTb (A 6) (okc A w b) (A 6) t := by
    refine wh_up (A 6) (by omega) (fun (d : Nat) (q : Int32 × (Nat → Int32) × (Nat → Int32) × (Nat → Int32) × (Nat → Int64)) => q.1 = nI (A 6 - d) - nI 1 ∧ ∀ t, A 6 ≤ t + d → t < A 6 → rowR (dTb (A 6) (okc A w b) (fun e => (ch A e : Int) - A 3) d t) (q.2.1 t) (q.2.2.1 t) (q.2.2.2.1 t) ∧ q.2.2.2.2 t = wTb (A 6) (okc A w b) d t) (fun (o : Option (((Nat → Int32) × (Nat → Int32) × (Nat → Int32) × (Nat → Int64)))) => ∃ W' C' L' Y', o = some (W', C', L', Y') ∧ ∀ t, t < A 6 → rowR (dTb (A 6) (okc A w b) (fun e => (ch A e : Int) - A 3) (A 6) t) (W' t) (C' t) (L' t) ∧ Y' t = wTb (A 6) (okc A w b) (A 6) t) (fun d q hd hI k hk => ?_) (Nat.zero_le _) ⟨rfl, fun t h1 h2 => by omega⟩
    obtain ⟨l, P1, P2, P3, P4⟩ := q
    obtain ⟨e1, e2⟩ := hI
    have e1 : l = nI (A 6 - d) - nI 1 := e1
    subst e1
    have e2 : ∀ t, A 6 ≤ t + d → t < A 6 → rowR (dTb (A 6) (okc A w b) (fun e => (ch A e : Int) - A 3) d t) (P1 t) (P2 t) (P3 t) ∧ P4 t = wTb (A 6) (okc A w b) d t := e2
    by_cases hlt : d < A 6
    · have hb := dTb_b (n := A 6) (ok := okc A w b) (g := fun e => (ch A e : Int) - A 3) (fun e => by have := ch_le A e; omega) d hd
      obtain ⟨W', C', L', Y', g1, g2, g4, g3⟩ := q_laysIn (w := w) (b := b) (s := A 6 - (d + 1)) (c := ch A) (chg := G') (T := dTb (A 6) (okc A w b) (fun e => (ch A e : Int) - A 3) d) (TW := wTb (A 6) (okc A w b) d) (W := upd P1 (A 6 - (d + 1)) (-nI 1000000000)) (C := P2) (L := P3) (Y := vp_updL P4 (A 6 - (d + 1)) (lN 0)) hV hM (by omega) (ch_le A) f2 pk_us pk_uLs (fun t h1 h2 => by
        rw [pk_un (by omega)]
        exact (e2 t (by omega) h2).1) (fun t h1 h2 => by
        rw [pk_uLn (by omega)]
        exact (e2 t (by omega) h2).2) (fun t h1 h2 => hb t h2)
      have h9 := hk hlt (nI (A 6 - (d + 1)) - nI 1, W', C', L', Y') ⟨rfl, fun t h1 h2 => ?_⟩
      · have h7 : A 6 - d - 1 = A 6 - (d + 1) := by omega
        rw [← h7] at g1
        simp (disch := omega) only [fa_lit, fa_litL, nI_add, pk_mul, pk_sub, nI_clamp, gi_n, gb_0, gb_1, nI_ltI, nI_leI, nI_eq, lc_lt, lc_gt, lc_ge, lc_le, lc_eq, lN_i, nI_l, lN_add, lN_mul, lN_lt, lN_le, lN_eq, mI_eqR, mI_eqL, mI_ltL, mI_ltR, mI_leL, mI_leR, mI_add, ob1_some, ob2_some, ob3_some, ob4_some, ob5_some, ob6_some, ob7_some, ob8_some, if_true, if_false, if_pos, if_neg, Sum.elim_inl, Sum.elim_inr, un1, un2, un3, un4, un5, Nat.zero_add, Nat.add_zero, Nat.mul_one, Nat.mul_zero, Nat.sub_zero, pk_us, pk_uLs, xoq_l, xoq_r, nI_sle, S_X11_laysDivisions_35, g1, dn_m1]
        exact h9
      · show rowR (dTb (A 6) (okc A w b) (fun e => (ch A e : Int) - A 3) (d + 1) t) (W' t) (C' t) (L' t) ∧ Y' t = wTb (A 6) (okc A w b) (d + 1) t
        by_cases h3 : t = A 6 - (d + 1)
        · subst h3
          rw [dTb_0, wTb_0]
          rw [show A 6 - (A 6 - (d + 1)) = d + 1 by omega] at g2 g4
          exact ⟨g2, g4⟩
        · rw [dTb_n _ _ _ h3, wTb_n _ _ h3]
          have h4 := g3 t h3
          rw [h4.1, h4.2.1, h4.2.2.1, h4.2.2.2, pk_un h3, pk_uLn h3]
          exact e2 t (by omega) h2
    · have h8 : d = A 6 := by omega
      subst h8
      refine ⟨P1, P2, P3, P4, ?_, fun t h => e2 t (by omega) h⟩
      have h5 : nI (A 6 - A 6) - nI 1 < nI 0 := by rw [Nat.sub_self]; decide
      unfold S_X11_laysDivisions_35
      simp only [fa_lit]
      rw [if_pos h5]
  obtain ⟨W', C', L', Y', g1, g2⟩ := key
  refine ⟨W', C', L', G', Y', ?_, g2⟩
  unfold F_X11_laysDivisions
  simp only [fa_lit]
  rw [q_many hM, ob1_some, ob1_s f1, g1]
  rfl
theorem q_hasBest (hV : VA A) (hM : MR A a) {w b : Nat} {W C L G : Nat → Int32} {Y : Nat → Int64} :
    ∃ W' C' L' G' Y', F_X11_hasBest (rI w 32) (rI b 32) a W C L G Y = some (bI (0 < A 6 ∧ (dTb (A 6) (okc A w b) (fun e => (ch A e : Int) - A 3) (A 6) 0).isSome = true), W', C', L', G', Y') ∧ ∀ t, t < A 6 → rowR (dTb (A 6) (okc A w b) (fun e => (ch A e : Int) - A 3) (A 6) t) (W' t) (C' t) (L' t) ∧ Y' t = wTb (A 6) (okc A w b) (A 6) t := by
  have hn := hV.n
  have hp := hV.s3
  obtain ⟨W', C', L', G', Y', g1, g2⟩ := q_lays (w := w) (b := b) (W := W) (C := C) (L := L) (G := G) (Y := Y) hV hM
  refine ⟨W', C', L', G', Y', ?_, g2⟩
  unfold F_X11_hasBest
  rw [g1]
  by_cases h0 : 0 < A 6
  · have h1 := (g2 0 h0).1
    cases hT : dTb (A 6) (okc A w b) (fun e => (ch A e : Int) - A 3) (A 6) 0 with
    | none =>
      rw [hT] at h1
      have h2 : W' 0 = -nI 1000000000 := h1
      rw [bI_0 (fun h => by have := h.2; exact absurd this (by decide))]
      simp (disch := omega) only [fa_lit, fa_litL, nI_add, pk_mul, pk_sub, nI_clamp, gi_n, gb_0, gb_1, nI_ltI, nI_leI, nI_eq, lc_lt, lc_gt, lc_ge, lc_le, lc_eq, lN_i, nI_l, lN_add, lN_mul, lN_lt, lN_le, lN_eq, mI_eqR, mI_eqL, mI_ltL, mI_ltR, mI_leL, mI_leR, mI_add, ob1_some, ob2_some, ob3_some, ob4_some, ob5_some, ob6_some, ob7_some, ob8_some, if_true, if_false, if_pos, if_neg, Sum.elim_inl, Sum.elim_inr, un1, un2, un3, un4, un5, Nat.zero_add, Nat.add_zero, Nat.mul_one, Nat.mul_zero, Nat.sub_zero, pk_us, pk_uLs, xoq_l, xoq_r, nI_sle, q_many hM, h2]
    | some x =>
      rw [hT] at h1
      have h2 : W' 0 = iI x.1 := h1.1
      have hb := dTb_b (n := A 6) (ok := okc A w b) (g := fun e => (ch A e : Int) - A 3) (fun e => by have := ch_le A e; omega) (A 6) (Nat.le_refl _) 0 h0 x hT
      rw [bI_1 ⟨h0, rfl⟩]
      simp (disch := omega) only [fa_lit, fa_litL, nI_add, pk_mul, pk_sub, nI_clamp, gi_n, gb_0, gb_1, nI_ltI, nI_leI, nI_eq, lc_lt, lc_gt, lc_ge, lc_le, lc_eq, lN_i, nI_l, lN_add, lN_mul, lN_lt, lN_le, lN_eq, mI_eqR, mI_eqL, mI_ltL, mI_ltR, mI_leL, mI_leR, mI_add, ob1_some, ob2_some, ob3_some, ob4_some, ob5_some, ob6_some, ob7_some, ob8_some, if_true, if_false, if_pos, if_neg, Sum.elim_inl, Sum.elim_inr, un1, un2, un3, un4, un5, Nat.zero_add, Nat.add_zero, Nat.mul_one, Nat.mul_zero, Nat.sub_zero, pk_us, pk_uLs, xoq_l, xoq_r, nI_sle, q_many hM, h2, far_ne]
  · rw [bI_0 (fun h => h0 h.1)]
    simp (disch := omega) only [fa_lit, fa_litL, nI_add, pk_mul, pk_sub, nI_clamp, gi_n, gb_0, gb_1, nI_ltI, nI_leI, nI_eq, lc_lt, lc_gt, lc_ge, lc_le, lc_eq, lN_i, nI_l, lN_add, lN_mul, lN_lt, lN_le, lN_eq, mI_eqR, mI_eqL, mI_ltL, mI_ltR, mI_leL, mI_leR, mI_add, ob1_some, ob2_some, ob3_some, ob4_some, ob5_some, ob6_some, ob7_some, ob8_some, if_true, if_false, if_pos, if_neg, Sum.elim_inl, Sum.elim_inr, un1, un2, un3, un4, un5, Nat.zero_add, Nat.add_zero, Nat.mul_one, Nat.mul_zero, Nat.sub_zero, pk_us, pk_uLs, xoq_l, xoq_r, nI_sle, q_many hM]
end
