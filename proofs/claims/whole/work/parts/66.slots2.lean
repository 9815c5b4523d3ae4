/-! ===== slots, versions, undo, load ===== -/
section
variable {A : Nat → Nat} {sc : Int32} {wc : Int32} {ord : Nat → Int32} {dur : Nat → Int32} {pau : Nat → Int32} {siz : Nat → Int32} {wor : Nat → Int32} {nam : Nat → Int64} {ns : Int32} {wi : Nat → Int32} {le : Nat → Int32} {re : Nat → Int32} {ex : Int32} {kn : Int32} {kt : Int32} {kr : Nat → Int32} {ks : Nat → Int32} {kd : Nat → Int32} {set : Nat → Int32} {stl : Int32} {cc : Int32} {bw : Int32} {dn : Int32} {lea : Int32} {mos : Int32} {chg : Nat → Int32} {fir : Nat → Int32} {cat : Nat → Int32} {sta : Nat → Int32} {bc : Int32} {bcn : Int32} {pl : Nat → Int32} {tim : Nat → Int32} {spd : Nat → Int32} {cnt : Nat → Int32} {hsz : Int32} {hol : Int32} {HI : Nat → gq_SH} {bl : Int32} {text : Nat → Int32} {ea : Int32} {pn : Int32} {pb : Nat → Int32} {a : Nat → Int64} {km : Int32} {kp : Nat → Int64} {bn : Int32} {buf : Nat → Int32} {qe : Int32} {wn : Int32} {wb : Nat → Int32} {tc : Int32} {tl : Int32} {wrt : Nat → Int32} {cuc : Nat → Int32} {las : Nat → Int32} {lef : Nat → Int32} {rig : Nat → Int32} {cos : Nat → Int32} {cut : Nat → Int32} {th : Int32} {W : Nat → Int32} {C : Nat → Int32} {E : Nat → Int32} {G : Nat → Int32} {Y : Nat → Int64} {qco : Nat → Int32} {qpl : Nat → Int32} {qcu : Nat → Int32}
theorem sp_con {A B : Nat → Nat} : ∀ n, (∀ s, s < n → oA B s 0 = oA A s 0) → sp B n = sp A n := by
  intro n
  induction n with
  | zero => intro _; rfl
  | succ n ih =>
    intro h
    rw [sp_s, sp_s, ih (fun s hs => h s (by omega)), h n (by omega)]
theorem c_addSlot {x y z : Int32} (h : REL sc wc ord dur pau siz wor nam ns wi le re ex kn kt kr ks kd set stl cc bw dn lea mos chg fir cat sta bc bcn pl tim spd cnt hsz hol HI bl text ea pn pb a km kp bn buf qe wn wb tc tl) : ∃ res r stl' ns' wi' le' re' hsz' hol' HI' km' th' a' kp', F_X10_addSlot x y z stl sc wc ord dur pau siz wor nam ns wi le re ex kn kt kr ks kd set hsz hol HI = some (res, stl', ns', wi', le', re', hsz', hol', HI') ∧ F_X11_addSlot x y z km th a kp = some (r, km', th', a', kp') ∧ REL sc wc ord dur pau siz wor nam ns' wi' le' re' ex kn kt kr ks kd set stl' cc bw dn lea mos chg fir cat sta bc bcn pl tim spd cnt hsz' hol' HI' bl text ea pn pb a' km' kp' bn buf qe wn wb tc tl ∧ OU [(2,1), (1,2)] res th' r := by
  obtain ⟨A, H, m, T, b, L, hS, hC, hH, hB, hP, hM, hK, hB2, hE, hW, hc1, hc2⟩ := id h
  have hn := hS.1.nl
  have hns := hS.2.2.1.1
  have i1 := q_isInN x (lo := 0) (hi := 9999) (by omega) (by omega)
  have i2 := q_isInN y (lo := 1) (hi := 300) (by omega) (by omega)
  have i3 := q_isInN z (lo := 0) (hi := 999) (by omega) (by omega)
  unfold F_X10_addSlot F_X11_addSlot F_X11_addSlot_b40 F_X11_addSlot_b41 F_X11_addSlot_b72
  rw [show (0 : Int64) = lN 0 from rfl, show (9999 : Int64) = lN 9999 from rfl, show (1 : Int64) = lN 1 from rfl, show (300 : Int64) = lN 300 from rfl, show (999 : Int64) = lN 999 from rfl, i1, i2, i3, ob1_some]
  rcases p_rqRange x (lo := 0) (hi := 9999) (by omega) (by omega) with ⟨w, g1, g2, g3, g4⟩ | ⟨g1, g2⟩
  · subst g3
    have hw : (nI w).toInt = w := nI_toInt (by omega)
    have g4 : F_X10_requireRange (nI w) (0 : Int32) (9999 : Int32) = some (.inr ()) := g4
    rw [g4, ob1_some, xoq_r, bI_1 (by rw [hw]; omega), if_neg (show ¬ nI 1 = (0 : Int32) by decide), ob1_some]
    rcases p_rqRange y (lo := 1) (hi := 300) (by omega) (by omega) with ⟨l, k1, k2, k3, k4⟩ | ⟨k1, k2⟩
    · subst k3
      have hl : (nI l).toInt = l := nI_toInt (by omega)
      have k4 : F_X10_requireRange (nI l) (1 : Int32) (300 : Int32) = some (.inr ()) := k4
      rw [k4, ob1_some, xoq_r, bI_1 (by rw [hl]; omega), if_neg (show ¬ nI 1 = (0 : Int32) by decide), ob1_some]
      rcases p_rqRange z (lo := 0) (hi := 999) (by omega) (by omega) with ⟨r, j1, j2, j3, j4⟩ | ⟨j1, j2⟩
      · subst j3
        have hr : (nI r).toInt = r := nI_toInt (by omega)
        have j4 : F_X10_requireRange (nI r) (0 : Int32) (999 : Int32) = some (.inr ()) := j4
        have hz : (lg_cmp (lN (A 8)) (5 : Int64) = (0 : Int32)) ↔ A 8 = 5 := by
          rw [lg_cmp_eq]
          exact lN_eq (b := 5) (by omega) (by omega)
        rw [j4, ob1_some, xoq_r, bI_1 (by rw [hr]; omega), if_neg (show ¬ nI 1 = (0 : Int32) by decide), if_neg (show ¬ (1 : Int32) = 0 by decide), show (8 : Int32) = nI 8 from rfl, gi_n (by omega) (by omega), nI_clamp (by omega), hM.at (by omega)]
        by_cases c : A 8 < 5
        · obtain ⟨hsz', hol', HI', f1, f2⟩ := p_begin hS.1 hS.2.1 hS.2.2.1 hS.2.2.2.1 hS.2.2.2.2 hH (stl := stl)
          obtain ⟨kp', f3, f4⟩ := q_keeps hM hH.1 hK
          obtain ⟨wi', le', re', f5, f6⟩ := p_insert hS.1 hS.2.2.1 (w := w) (l := l) (r := r) c g2 k2 j2
          obtain ⟨a', f7, f8⟩ := q_putsSlot hS.1 hM (w := w) (l := l) (r := r) c g2 k2 j2
          have c2 : ns < (5 : Int32) := by rw [hns]; exact nI_lt (b := 5) c (by omega)
          rw [if_pos c2, f1, ob4_some, f5, ob5_some, if_neg (fun h9 => by have := hz.mp h9; omega), if_pos (show (0 : Int32) ≤ 0 by decide), f3, ob2_some, f7, ob2_some]
          have hp := plw_le A w (A 8)
          have hu : ∀ j, (j < 394 ∨ 409 ≤ j) → j ≠ 8 → isA A (plw A w (A 8)) w l r j = A j := fun j hj h8 => is_n c hp hj h8
          exact ⟨_, _, _, _, _, _, _, _, _, _, _, _, _, _, rfl, rfl, ⟨isA A (plw A w (A 8)) w l r, _, _, T, b, L, ⟨is_VA hS.1 c g2 ⟨k1, k2⟩ j2, TR.congr hS.1 (hu 6 (by omega) (by omega)) (hu 7 (by omega) (by omega)) (fun j h1 h2 => hu j (by omega) (by omega)) (fun j h1 h2 => hu j (by omega) (by omega)) hS.2.1, f6, KR.congr hS.1 (fun j h1 h2 => hu j (by omega) (by omega)) hS.2.2.2.1, SR.congr (fun j h1 => hu j (by omega) (by omega)) hS.2.2.2.2⟩, Or.inl rfl, f2, hB, hP, f8, f4, hB2, hE, hW, hc1, hc2⟩, OU_v⟩
        · have c5 : A 8 = 5 := by omega
          have c2 : ¬ ns < (5 : Int32) := by rw [hns, c5]; decide
          rw [if_neg c2, if_pos (hz.mpr c5), if_neg (show ¬ (2 : Int32) ≤ 0 by decide)]
          exact ⟨_, _, _, _, _, _, _, _, _, _, _, _, _, _, rfl, rfl, h, OU_2⟩
      · have j2 : F_X10_requireRange z (0 : Int32) (999 : Int32) = some (.inl 2) := j2
        rw [j2, ob1_some, xoq_l, bI_0 j1, if_pos (show nI 0 = (0 : Int32) from rfl), if_pos (show (0 : Int32) = 0 from rfl), if_neg (show ¬ (1 : Int32) ≤ 0 by decide)]
        exact ⟨_, _, _, _, _, _, _, _, _, _, _, _, _, _, rfl, rfl, h, OU_1⟩
    · have k2 : F_X10_requireRange y (1 : Int32) (300 : Int32) = some (.inl 2) := k2
      rw [k2, ob1_some, xoq_l, bI_0 k1, if_pos (show nI 0 = (0 : Int32) from rfl), if_pos (show (0 : Int32) = 0 from rfl), if_neg (show ¬ (1 : Int32) ≤ 0 by decide)]
      exact ⟨_, _, _, _, _, _, _, _, _, _, _, _, _, _, rfl, rfl, h, OU_1⟩
  · have g2 : F_X10_requireRange x (0 : Int32) (9999 : Int32) = some (.inl 2) := g2
    rw [g2, ob1_some, xoq_l, bI_0 g1, if_pos (show nI 0 = (0 : Int32) from rfl), if_pos (show (0 : Int32) = 0 from rfl), if_neg (show ¬ (1 : Int32) ≤ 0 by decide)]
    exact ⟨_, _, _, _, _, _, _, _, _, _, _, _, _, _, rfl, rfl, h, OU_1⟩
theorem c_removeSlot {x : Int32} (h : REL sc wc ord dur pau siz wor nam ns wi le re ex kn kt kr ks kd set stl cc bw dn lea mos chg fir cat sta bc bcn pl tim spd cnt hsz hol HI bl text ea pn pb a km kp bn buf qe wn wb tc tl) : ∃ res r stl' ns' wi' le' re' hsz' hol' HI' km' th' a' kp', F_X10_removeSlot x stl sc wc ord dur pau siz wor nam ns wi le re ex kn kt kr ks kd set hsz hol HI = some (res, stl', ns', wi', le', re', hsz', hol', HI') ∧ F_X11_removeSlot x km th a kp = some (r, km', th', a', kp') ∧ REL sc wc ord dur pau siz wor nam ns' wi' le' re' ex kn kt kr ks kd set stl' cc bw dn lea mos chg fir cat sta bc bcn pl tim spd cnt hsz' hol' HI' bl text ea pn pb a' km' kp' bn buf qe wn wb tc tl ∧ OU [(3,1)] res th' r := by
  obtain ⟨A, H, m, T, b, L, hS, hC, hH, hB, hP, hM, hK, hB2, hE, hW, hc1, hc2⟩ := id h
  have hn := hS.1.nl
  have hns := hS.2.2.1.1
  unfold F_X10_removeSlot F_X11_removeSlot F_X11_removeSlot_b14
  rw [q_isSlt hS.1 hM, ob1_some]
  rcases r_Slot x hns (by omega) with ⟨s, h1, h2, h3⟩ | ⟨h1, h2⟩
  · subst h2
    have ht : (nI s).toInt = s := nI_toInt (by omega)
    obtain ⟨hsz', hol', HI', f1, f2⟩ := p_begin hS.1 hS.2.1 hS.2.2.1 hS.2.2.2.1 hS.2.2.2.2 hH (stl := stl)
    obtain ⟨kp', f3, f4⟩ := q_keeps hM hH.1 hK
    obtain ⟨wi', le', re', f5, f6⟩ := p_drop hS.1 hS.2.2.1 h1
    obtain ⟨a', f7, f8⟩ := q_takesSlot hS.1 hM h1
    have e8 : dsA A s 8 = A 8 - 1 := if_pos rfl
    rw [h3, ob1_some, xoq_r, f1, ob4_some, f5, ob4_some, bI_1 (by rw [ht]; omega), if_neg (show ¬ nI 1 = (0 : Int32) by decide), if_pos (show (0 : Int32) ≤ 0 by decide), f3, ob2_some, f7, ob1_some, show (8 : Int32) = nI 8 from rfl, gi_n (by omega) (by omega), nI_clamp (by omega), f8.at (by omega), e8, lN_i]
    have hu : ∀ j, (j < 394 ∨ 409 ≤ j) → j ≠ 8 → dsA A s j = A j := fun j hj h8 => ds_n h1 hn hj h8
    exact ⟨_, _, _, _, _, _, _, _, _, _, _, _, _, _, rfl, rfl, ⟨dsA A s, _, _, T, b, L, ⟨ds_VA hS.1 h1, TR.congr hS.1 (hu 6 (by omega) (by omega)) (hu 7 (by omega) (by omega)) (fun j h1 h2 => hu j (by omega) (by omega)) (fun j h1 h2 => hu j (by omega) (by omega)) hS.2.1, f6, KR.congr hS.1 (fun j h1 h2 => hu j (by omega) (by omega)) hS.2.2.2.1, SR.congr (fun j h1 => hu j (by omega) (by omega)) hS.2.2.2.2⟩, Or.inl rfl, f2, hB, hP, f8, f4, hB2, hE, hW, hc1, hc2⟩, OU_v⟩
  · rw [h2, ob1_some, xoq_l, bI_0 h1, if_pos (show nI 0 = (0 : Int32) from rfl), if_neg (show ¬ (1 : Int32) ≤ 0 by decide)]
    exact ⟨_, _, _, _, _, _, _, _, _, _, _, _, _, _, rfl, rfl, h, OU_1⟩
theorem c_moveSlot {x y : Int32} (h : REL sc wc ord dur pau siz wor nam ns wi le re ex kn kt kr ks kd set stl cc bw dn lea mos chg fir cat sta bc bcn pl tim spd cnt hsz hol HI bl text ea pn pb a km kp bn buf qe wn wb tc tl) : ∃ res r stl' ns' wi' le' re' hsz' hol' HI' km' th' a' kp', F_X10_moveSlot x y stl sc wc ord dur pau siz wor nam ns wi le re ex kn kt kr ks kd set hsz hol HI = some (res, stl', ns', wi', le', re', hsz', hol', HI') ∧ F_X11_moveSlot x y km th a kp = some (r, km', th', a', kp') ∧ REL sc wc ord dur pau siz wor nam ns' wi' le' re' ex kn kt kr ks kd set stl' cc bw dn lea mos chg fir cat sta bc bcn pl tim spd cnt hsz' hol' HI' bl text ea pn pb a' km' kp' bn buf qe wn wb tc tl ∧ OU [(3,1), (2,2)] res th' r := by
  obtain ⟨A, H, m, T, b, L, hS, hC, hH, hB, hP, hM, hK, hB2, hE, hW, hc1, hc2⟩ := id h
  have hn := hS.1.nl
  have hns := hS.2.2.1.1
  have i1 := q_isInN y (lo := 0) (hi := 9999) (by omega) (by omega)
  unfold F_X10_moveSlot F_X11_moveSlot F_X11_moveSlot_b30
  rw [q_isSlt hS.1 hM, ob1_some, show (0 : Int64) = lN 0 from rfl, show (9999 : Int64) = lN 9999 from rfl, i1]
  rcases r_Slot x hns (by omega) with ⟨s, h1, h2, h3⟩ | ⟨h1, h2⟩
  · subst h2
    have ht : (nI s).toInt = s := nI_toInt (by omega)
    rw [h3, ob1_some, xoq_r, bI_1 (by rw [ht]; omega), if_neg (show ¬ nI 1 = (0 : Int32) by decide), ob1_some]
    rcases p_rqRange y (lo := 0) (hi := 9999) (by omega) (by omega) with ⟨w, g1, g2, g3, g4⟩ | ⟨g1, g2⟩
    · subst g3
      have hw : (nI w).toInt = w := nI_toInt (by omega)
      have g4 : F_X10_requireRange (nI w) (0 : Int32) (9999 : Int32) = some (.inr ()) := g4
      have hv := hS.2.2.1.2 s h1
      have hsl := hS.1.slot h1
      obtain ⟨hsz', hol', HI', f1, f2⟩ := p_begin hS.1 hS.2.1 hS.2.2.1 hS.2.2.2.1 hS.2.2.2.2 hH (stl := stl)
      obtain ⟨kp', f3, f4⟩ := q_keeps hM hH.1 hK
      obtain ⟨wi', le', re', f5, f6⟩ := p_drop hS.1 hS.2.2.1 h1
      obtain ⟨a', f7, f8⟩ := q_takesSlot hS.1 hM h1
      have e8 : dsA A s 8 = A 8 - 1 := if_pos rfl
      have hV2 := ds_VA hS.1 h1
      have c8 : dsA A s 8 < 5 := by omega
      rw [← e8] at f6
      obtain ⟨wi2, le2, re2, f9, f10⟩ := p_insert hV2 f6 (w := w) (l := A (394 + 3 * s + 1)) (r := A (394 + 3 * s + 2)) c8 g2 hsl.2.2.1 hsl.2.2.2
      obtain ⟨a2, f11, f12⟩ := q_putsSlot hV2 f8 (w := w) (l := A (394 + 3 * s + 1)) (r := A (394 + 3 * s + 2)) c8 g2 hsl.2.2.1 hsl.2.2.2
      have o1 := q_ofSlot hS.1 hM (i := s) (w := 1) h1 (by omega)
      have o2 := q_ofSlot hS.1 hM (i := s) (w := 2) h1 (by omega)
      have o1 : F_X11_ofSlot (nI s) (1 : Int32) a = some (nI (A (394 + 3 * s + 1))) := o1
      have o2 : F_X11_ofSlot (nI s) (2 : Int32) a = some (nI (A (394 + 3 * s + 2))) := o2
      rw [← e8] at f5
      rw [g4, ob1_some, xoq_r, gi_n (by omega) (by omega), gi_n (by omega) (by omega), f1, ob4_some, f5, ob4_some, nI_clamp (by omega), hv.2.1, hv.2.2, f9, ob5_some, bI_1 (by rw [hw]; omega), if_neg (show ¬ nI 1 = (0 : Int32) by decide), if_pos (show (0 : Int32) ≤ 0 by decide), f3, ob2_some, o1, ob1_some, o2, ob1_some, f7, ob1_some, f11, ob2_some]
      have hp := plw_le (dsA A s) w (dsA A s 8)
      have hu0 : ∀ j, (j < 394 ∨ 409 ≤ j) → j ≠ 8 → dsA A s j = A j := fun j hj h8 => ds_n h1 hn hj h8
      have hu : ∀ j, (j < 394 ∨ 409 ≤ j) → j ≠ 8 → isA (dsA A s) (plw (dsA A s) w (dsA A s 8)) w (A (394 + 3 * s + 1)) (A (394 + 3 * s + 2)) j = A j := fun j hj h8 => (is_n c8 hp hj h8).trans (hu0 j hj h8)
      exact ⟨_, _, _, _, _, _, _, _, _, _, _, _, _, _, rfl, rfl, ⟨_, _, _, T, b, L, ⟨is_VA hV2 c8 g2 ⟨hsl.2.1, hsl.2.2.1⟩ hsl.2.2.2, TR.congr hS.1 (hu 6 (by omega) (by omega)) (hu 7 (by omega) (by omega)) (fun j h1 h2 => hu j (by omega) (by omega)) (fun j h1 h2 => hu j (by omega) (by omega)) hS.2.1, f10, KR.congr hS.1 (fun j h1 h2 => hu j (by omega) (by omega)) hS.2.2.2.1, SR.congr (fun j h1 => hu j (by omega) (by omega)) hS.2.2.2.2⟩, Or.inl rfl, f2, hB, hP, f12, f4, hB2, hE, hW, hc1, hc2⟩, OU_v⟩
    · have g2 : F_X10_requireRange y (0 : Int32) (9999 : Int32) = some (.inl 2) := g2
      rw [g2, ob1_some, xoq_l, bI_0 g1, if_pos (show nI 0 = (0 : Int32) from rfl), if_neg (show ¬ (2 : Int32) ≤ 0 by decide)]
      exact ⟨_, _, _, _, _, _, _, _, _, _, _, _, _, _, rfl, rfl, h, OU_2⟩
  · rw [h2, ob1_some, xoq_l, bI_0 h1, if_pos (show nI 0 = (0 : Int32) from rfl), if_neg (show ¬ (1 : Int32) ≤ 0 by decide)]
    exact ⟨_, _, _, _, _, _, _, _, _, _, _, _, _, _, rfl, rfl, h, OU_1⟩
end
