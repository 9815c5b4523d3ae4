/-! ===== durations, pauses, words, segments ===== -/
section
variable {A : Nat → Nat} {sc : Int32} {wc : Int32} {ord : Nat → Int32} {dur : Nat → Int32} {pau : Nat → Int32} {siz : Nat → Int32} {wor : Nat → Int32} {nam : Nat → Int64} {ns : Int32} {wi : Nat → Int32} {le : Nat → Int32} {re : Nat → Int32} {ex : Int32} {kn : Int32} {kt : Int32} {kr : Nat → Int32} {ks : Nat → Int32} {kd : Nat → Int32} {set : Nat → Int32} {stl : Int32} {cc : Int32} {bw : Int32} {dn : Int32} {lea : Int32} {mos : Int32} {chg : Nat → Int32} {fir : Nat → Int32} {cat : Nat → Int32} {sta : Nat → Int32} {bc : Int32} {bcn : Int32} {pl : Nat → Int32} {tim : Nat → Int32} {spd : Nat → Int32} {cnt : Nat → Int32} {hsz : Int32} {hol : Int32} {HI : Nat → gq_SH} {bl : Int32} {text : Nat → Int32} {ea : Int32} {pn : Int32} {pb : Nat → Int32} {a : Nat → Int64} {km : Int32} {kp : Nat → Int64} {bn : Int32} {buf : Nat → Int32} {qe : Int32} {wn : Int32} {wb : Nat → Int32} {tc : Int32} {tl : Int32} {wrt : Nat → Int32} {cuc : Nat → Int32} {las : Nat → Int32} {lef : Nat → Int32} {rig : Nat → Int32} {cos : Nat → Int32} {cut : Nat → Int32} {th : Int32} {W : Nat → Int32} {C : Nat → Int32} {E : Nat → Int32} {G : Nat → Int32} {Y : Nat → Int64} {qco : Nat → Int32} {qpl : Nat → Int32} {qcu : Nat → Int32}
theorem c_setDuration {x y : Int32} (h : REL sc wc ord dur pau siz wor nam ns wi le re ex kn kt kr ks kd set stl cc bw dn lea mos chg fir cat sta bc bcn pl tim spd cnt hsz hol HI bl text ea pn pb a km kp bn buf qe wn wb tc tl) : ∃ res r stl' dur' hsz' hol' HI' km' th' a' kp', F_X10_setDuration x y stl sc wc ord dur pau siz wor nam ns wi le re ex kn kt kr ks kd set hsz hol HI = some (res, stl', dur', hsz', hol', HI') ∧ F_X11_setDuration x y km th a kp = some (r, km', th', a', kp') ∧ REL sc wc ord dur' pau siz wor nam ns wi le re ex kn kt kr ks kd set stl' cc bw dn lea mos chg fir cat sta bc bcn pl tim spd cnt hsz' hol' HI' bl text ea pn pb a' km' kp' bn buf qe wn wb tc tl ∧ OU [(3,1), (2,2)] res th' r := by
  obtain ⟨A, H, m, T, b, L, hS, hC, hH, hB, hP, hM, hK, hB2, hE, hW, hc1, hc2⟩ := id h
  have hn := hS.1.n
  have hsc := hS.2.1.1
  have hj := q_isInN y (lo := 1) (hi := 999) (by omega) (by omega)
  unfold F_X10_setDuration F_X11_setDuration F_X11_setDuration_b30
  rw [q_isSegm hS.1 hM, ob1_some, show (1 : Int64) = lN 1 from rfl, show (999 : Int64) = lN 999 from rfl, hj]
  rcases r_Seg x hsc (by omega) with ⟨s, h1, h2, h3⟩ | ⟨h1, h2⟩
  · subst h2
    have ht : (nI s).toInt = s := nI_toInt (by omega)
    rw [h3, ob1_some, xoq_r, bI_1 (by rw [ht]; omega), if_neg (show ¬ nI 1 = (0 : Int32) by decide), ob1_some]
    rcases p_rqRange y (lo := 1) (hi := 999) (by omega) (by omega) with ⟨v, g1, g2, g3, g4⟩ | ⟨g1, g2⟩
    · subst g3
      have hv : (nI v).toInt = v := nI_toInt (by omega)
      have g4 : F_X10_requireRange (nI v) (1 : Int32) (999 : Int32) = some (.inr ()) := g4
      obtain ⟨hsz', hol', HI', f1, f2⟩ := p_begin hS.1 hS.2.1 hS.2.2.1 hS.2.2.2.1 hS.2.2.2.2 hH (stl := stl)
      obtain ⟨kp', f3, f4⟩ := q_puts (s := s) (w := 0) (v := v) hS.1 hM hH.1 hK (by omega) (by omega)
      have f3 : F_X11_puts (nI s) (0 : Int32) (nI v) km a kp = _ := f3
      rw [g4, ob1_some, xoq_r, p_durationOf hS.1 hS.2.1 h1, ob1_some, f1, ob4_some, p_chDur hS.1 hS.2.1 h1, ob1_some, bI_1 (by rw [hv]; omega), if_neg (show ¬ nI 1 = (0 : Int32) by decide), if_pos (show (0 : Int32) ≤ 0 by decide), f3, ob4_some]
      have hu : ∀ j, j ≠ 10 + 12 * s + 0 → uA A (10 + 12 * s + 0) v j = A j := fun j hj => uA_n hj
      exact ⟨_, _, _, _, _, _, _, _, _, _, _, rfl, rfl, ⟨uA A (10 + 12 * s + 0) v, _, _, T, b, L, ⟨seg_VA hS.1 h1 (by omega) (fun _ => ⟨g1, g2⟩) (fun h => by omega) (fun h => by omega) (fun h => by omega), dur_TR hS.1 hS.2.1 h1, QR.congr hS.1 (hu 8 (by omega)) (fun j h1 h2 => hu j (by omega)) hS.2.2.1, KR.congr hS.1 (fun j h1 h2 => hu j (by omega)) hS.2.2.2.1, SR.congr (fun j h1 => hu j (by omega)) hS.2.2.2.2⟩, Or.inl rfl, f2, hB, hP, hM.u, f4, hB2, hE, hW, hc1, hc2⟩, OU_v⟩
    · have g2 : F_X10_requireRange y (1 : Int32) (999 : Int32) = some (.inl 2) := g2
      rw [g2, ob1_some, xoq_l, bI_0 g1, if_pos (show nI 0 = (0 : Int32) from rfl), if_neg (show ¬ (2 : Int32) ≤ 0 by decide)]
      exact ⟨_, _, _, _, _, _, _, _, _, _, _, rfl, rfl, h, OU_2⟩
  · rw [h2, ob1_some, xoq_l, bI_0 h1, if_pos (show nI 0 = (0 : Int32) from rfl), if_neg (show ¬ (1 : Int32) ≤ 0 by decide)]
    exact ⟨_, _, _, _, _, _, _, _, _, _, _, rfl, rfl, h, OU_1⟩
theorem c_setPause {x y : Int32} (h : REL sc wc ord dur pau siz wor nam ns wi le re ex kn kt kr ks kd set stl cc bw dn lea mos chg fir cat sta bc bcn pl tim spd cnt hsz hol HI bl text ea pn pb a km kp bn buf qe wn wb tc tl) : ∃ res r stl' pau' hsz' hol' HI' km' th' a' kp', F_X10_setPause x y stl sc wc ord dur pau siz wor nam ns wi le re ex kn kt kr ks kd set hsz hol HI = some (res, stl', pau', hsz', hol', HI') ∧ F_X11_setPause x y km th a kp = some (r, km', th', a', kp') ∧ REL sc wc ord dur pau' siz wor nam ns wi le re ex kn kt kr ks kd set stl' cc bw dn lea mos chg fir cat sta bc bcn pl tim spd cnt hsz' hol' HI' bl text ea pn pb a' km' kp' bn buf qe wn wb tc tl ∧ OU [(3,1), (2,2)] res th' r := by
  obtain ⟨A, H, m, T, b, L, hS, hC, hH, hB, hP, hM, hK, hB2, hE, hW, hc1, hc2⟩ := id h
  have hn := hS.1.n
  have hsc := hS.2.1.1
  have hj := q_isInN y (lo := 0) (hi := 99) (by omega) (by omega)
  unfold F_X10_setPause F_X11_setPause F_X11_setPause_b30
  rw [q_isSegm hS.1 hM, ob1_some, show (0 : Int64) = lN 0 from rfl, show (99 : Int64) = lN 99 from rfl, hj]
  rcases r_Seg x hsc (by omega) with ⟨s, h1, h2, h3⟩ | ⟨h1, h2⟩
  · subst h2
    have ht : (nI s).toInt = s := nI_toInt (by omega)
    rw [h3, ob1_some, xoq_r, bI_1 (by rw [ht]; omega), if_neg (show ¬ nI 1 = (0 : Int32) by decide), ob1_some]
    rcases p_rqRange y (lo := 0) (hi := 99) (by omega) (by omega) with ⟨v, g1, g2, g3, g4⟩ | ⟨g1, g2⟩
    · subst g3
      have hv : (nI v).toInt = v := nI_toInt (by omega)
      have g4 : F_X10_requireRange (nI v) (0 : Int32) (99 : Int32) = some (.inr ()) := g4
      obtain ⟨hsz', hol', HI', f1, f2⟩ := p_begin hS.1 hS.2.1 hS.2.2.1 hS.2.2.2.1 hS.2.2.2.2 hH (stl := stl)
      obtain ⟨kp', f3, f4⟩ := q_puts (s := s) (w := 1) (v := v) hS.1 hM hH.1 hK (by omega) (by omega)
      have f3 : F_X11_puts (nI s) (1 : Int32) (nI v) km a kp = _ := f3
      rw [g4, ob1_some, xoq_r, p_pauseOf hS.1 hS.2.1 h1, ob1_some, f1, ob4_some, p_chPau hS.1 hS.2.1 h1, ob1_some, bI_1 (by rw [hv]; omega), if_neg (show ¬ nI 1 = (0 : Int32) by decide), if_pos (show (0 : Int32) ≤ 0 by decide), f3, ob4_some]
      have hu : ∀ j, j ≠ 10 + 12 * s + 1 → uA A (10 + 12 * s + 1) v j = A j := fun j hj => uA_n hj
      exact ⟨_, _, _, _, _, _, _, _, _, _, _, rfl, rfl, ⟨uA A (10 + 12 * s + 1) v, _, _, T, b, L, ⟨seg_VA hS.1 h1 (by omega) (fun h => by omega) (fun _ => g2) (fun h => by omega) (fun h => by omega), pau_TR hS.1 hS.2.1 h1, QR.congr hS.1 (hu 8 (by omega)) (fun j h1 h2 => hu j (by omega)) hS.2.2.1, KR.congr hS.1 (fun j h1 h2 => hu j (by omega)) hS.2.2.2.1, SR.congr (fun j h1 => hu j (by omega)) hS.2.2.2.2⟩, Or.inl rfl, f2, hB, hP, hM.u, f4, hB2, hE, hW, hc1, hc2⟩, OU_v⟩
    · have g2 : F_X10_requireRange y (0 : Int32) (99 : Int32) = some (.inl 2) := g2
      rw [g2, ob1_some, xoq_l, bI_0 g1, if_pos (show nI 0 = (0 : Int32) from rfl), if_neg (show ¬ (2 : Int32) ≤ 0 by decide)]
      exact ⟨_, _, _, _, _, _, _, _, _, _, _, rfl, rfl, h, OU_2⟩
  · rw [h2, ob1_some, xoq_l, bI_0 h1, if_pos (show nI 0 = (0 : Int32) from rfl), if_neg (show ¬ (1 : Int32) ≤ 0 by decide)]
    exact ⟨_, _, _, _, _, _, _, _, _, _, _, rfl, rfl, h, OU_1⟩
theorem c_addWord {x y : Int32} (h : REL sc wc ord dur pau siz wor nam ns wi le re ex kn kt kr ks kd set stl cc bw dn lea mos chg fir cat sta bc bcn pl tim spd cnt hsz hol HI bl text ea pn pb a km kp bn buf qe wn wb tc tl) : ∃ res r stl' siz' wor' hsz' hol' HI' km' th' a' kp', F_X10_addWord x y stl sc wc ord dur pau siz wor nam ns wi le re ex kn kt kr ks kd set hsz hol HI = some (res, stl', siz', wor', hsz', hol', HI') ∧ F_X11_addWord x y km th a kp = some (r, km', th', a', kp') ∧ REL sc wc ord dur pau siz' wor' nam ns wi le re ex kn kt kr ks kd set stl' cc bw dn lea mos chg fir cat sta bc bcn pl tim spd cnt hsz' hol' HI' bl text ea pn pb a' km' kp' bn buf qe wn wb tc tl ∧ OU [(3,1), (1,2)] res th' r := by
  obtain ⟨A, H, m, T, b, L, hS, hC, hH, hB, hP, hM, hK, hB2, hE, hW, hc1, hc2⟩ := id h
  have hn := hS.1.n
  have hnw := hS.1.nw
  have hsc := hS.2.1.1
  have hwc := hS.2.1.2.1
  unfold F_X10_addWord F_X11_addWord F_X11_addWord_b17 F_X11_addWord_b37
  rw [q_isSegm hS.1 hM, ob1_some, q_isKnow hS.1 hM]
  rcases r_Seg x hsc (by omega) with ⟨s, h1, h2, h3⟩ | ⟨h1, h2⟩
  · subst h2
    have ht : (nI s).toInt = s := nI_toInt (by omega)
    have hg := hS.1.seg h1
    have ho := hS.2.1.2.2.1 s h1
    have hof := q_of hM (s := s) (w := 2) (by omega)
    have hof : F_X11_of (nI s) (2 : Int32) a = some (nI (oA A s 2)) := hof
    rw [h3, ob1_some, xoq_r, bI_1 (by rw [ht]; omega), if_neg (show ¬ nI 1 = (0 : Int32) by decide), ob1_some]
    rcases r_Word y hwc (by omega) with ⟨v, g1, g2, g3⟩ | ⟨g1, g2⟩
    · subst g2
      have hv : (nI v).toInt = v := nI_toInt (by omega)
      rw [g3, ob1_some, xoq_r, bI_1 (by rw [hv]; omega), if_neg (show ¬ nI 1 = (0 : Int32) by decide), hof, ob1_some, p_sizeOf hS.1 hS.2.1 h1, ob1_some]
      by_cases c : oA A s 2 < 8
      · obtain ⟨hsz', hol', HI', f1, f2⟩ := p_begin hS.1 hS.2.1 hS.2.2.1 hS.2.2.2.1 hS.2.2.2.2 hH (stl := stl)
        obtain ⟨kp', f3, f4⟩ := q_puts (s := s) (w := 3 + oA A s 2) (v := v) hS.1 hM hH.1 hK (by omega) (by omega)
        have hV2 := aw_VA hS.1 h1 c g1
        have hT2 := aw_TR hS.1 hS.2.1 h1 c (v := v)
        have hpw : F_X9_putWord (nI s) (nI v) ord siz wor = some (nI 1, upd siz (oA A s 11) (nI (oA A s 2 + 1)), upd wor (oA A s 11 * 8 + oA A s 2) (nI v)) := by
          have e1 := ho.1
          have e2 := ho.2.2.2.1
          simp (disch := omega) only [fa_lit, fa_litL, nI_add, pk_mul, pk_sub, nI_clamp, gi_n, gb_0, gb_1, nI_ltI, nI_leI, nI_eq, lc_lt, lc_gt, lc_ge, lc_le, lc_eq, lN_i, nI_l, lN_add, lN_mul, lN_lt, lN_le, lN_eq, mI_eqR, mI_eqL, mI_ltL, mI_ltR, mI_leL, mI_leR, mI_add, ob1_some, ob2_some, ob3_some, ob4_some, ob5_some, ob6_some, ob7_some, ob8_some, if_true, if_false, if_pos, if_neg, Sum.elim_inl, Sum.elim_inr, un1, un2, un3, un4, un5, Nat.zero_add, Nat.add_zero, Nat.mul_one, Nat.mul_zero, Nat.sub_zero, pk_us, pk_uLs, xoq_l, xoq_r, nI_sle, F_X9_putWord, e1, e2]
        have h62 : awA A s v 6 = A 6 := by
          unfold awA
          rw [uA_n (by omega), uA_n (by omega)]
        have hz2 : oA (awA A s v) s 2 = oA A s 2 + 1 := by
          unfold oA awA
          rw [uA_s]
          rfl
        have hsz := p_sizeOf hV2 hT2 (s := s) (by rw [h62]; exact h1)
        rw [hz2] at hsz
        rw [if_pos (show nI (oA A s 2) < (8 : Int32) from nI_lt (b := 8) c (by omega)), f1, ob4_some, hpw, ob3_some, hsz, ob1_some, if_neg (show ¬ nI (oA A s 2) = (8 : Int32) from fun h => by have := (nI_eq (b := 8) (by omega) (by omega)).mp h; omega), if_pos (show (0 : Int32) ≤ 0 by decide), ob1_some, show (3 : Int32) + nI (oA A s 2) = nI (3 + oA A s 2) from nI_add 3 _, f3, ob4_some, show nI (oA A s 2) + (1 : Int32) = nI (oA A s 2 + 1) from nI_add _ 1]
        have e10 : ((10 : Int32) + ((12 : Int32) * nI s)) + (2 : Int32) = nI (10 + 12 * s + 2) := by
          rw [show (10 : Int32) = nI 10 from rfl, show (12 : Int32) = nI 12 from rfl, show (2 : Int32) = nI 2 from rfl, pk_mul, nI_add, nI_add]
        rw [e10, gi_n (by omega) (by omega), nI_clamp (by omega), nI_l (by omega)]
        have hu : ∀ j, (j < 10 ∨ 394 ≤ j) → awA A s v j = A j := fun j hj => by
          unfold awA
          rw [uA_n (by omega), uA_n (by omega)]
        exact ⟨_, _, _, _, _, _, _, _, _, _, _, _, rfl, rfl, ⟨awA A s v, _, _, T, b, L, ⟨hV2, hT2, QR.congr hS.1 (hu 8 (by omega)) (fun j h1 h2 => hu j (by omega)) hS.2.2.1, KR.congr hS.1 (fun j h1 h2 => hu j (by omega)) hS.2.2.2.1, SR.congr (fun j h1 => hu j (by omega)) hS.2.2.2.2⟩, Or.inl rfl, f2, hB, hP, (hM.u).u, f4, hB2, hE, hW, hc1, hc2⟩, OU_v⟩
      · have c8 : oA A s 2 = 8 := by omega
        rw [c8, if_neg (show ¬ nI 8 < (8 : Int32) by decide), if_pos (show nI 8 = (8 : Int32) from rfl), if_neg (show ¬ (2 : Int32) ≤ 0 by decide)]
        exact ⟨_, _, _, _, _, _, _, _, _, _, _, _, rfl, rfl, h, OU_2⟩
    · rw [g2, ob1_some, xoq_l, bI_0 g1, if_pos (show nI 0 = (0 : Int32) from rfl), if_neg (show ¬ (1 : Int32) ≤ 0 by decide)]
      exact ⟨_, _, _, _, _, _, _, _, _, _, _, _, rfl, rfl, h, OU_1⟩
  · rw [h2, ob1_some, xoq_l, bI_0 h1, if_pos (show nI 0 = (0 : Int32) from rfl), if_neg (show ¬ (1 : Int32) ≤ 0 by decide)]
    exact ⟨_, _, _, _, _, _, _, _, _, _, _, _, rfl, rfl, h, OU_1⟩
end
