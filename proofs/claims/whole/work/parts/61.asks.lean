/-! ===== the calls, by both: those that only look ===== -/
theorem r_Seg (x : Int32) {n : Nat} {c : Int32} (hc : c = nI n) (h : n < 2 ^ 31) : (∃ s, s < n ∧ x = nI s ∧ F_X10_requireSegment x c = some (.inr ())) ∨ (¬ (0 ≤ x.toInt ∧ x.toInt < n) ∧ F_X10_requireSegment x c = some (.inl 3)) := by subst hc; exact p_rqSeg x h
theorem r_Word (x : Int32) {n : Nat} {c : Int32} (hc : c = nI n) (h : n < 2 ^ 31) : (∃ s, s < n ∧ x = nI s ∧ F_X10_requireWord x c = some (.inr ())) ∨ (¬ (0 ≤ x.toInt ∧ x.toInt < n) ∧ F_X10_requireWord x c = some (.inl 3)) := by subst hc; exact p_rqWord x h
theorem r_Slot (x : Int32) {n : Nat} {c : Int32} (hc : c = nI n) (h : n < 2 ^ 31) : (∃ s, s < n ∧ x = nI s ∧ F_X10_requireSlot x c = some (.inr ())) ∨ (¬ (0 ≤ x.toInt ∧ x.toInt < n) ∧ F_X10_requireSlot x c = some (.inl 3)) := by subst hc; exact p_rqSlot x h
theorem r_Chap (x : Int32) {n : Nat} {c : Int32} (hc : c = nI n) (h : n < 2 ^ 31) : (∃ s, s < n ∧ x = nI s ∧ F_X10_requireChapter x c = some (.inr ())) ∨ (¬ (0 ≤ x.toInt ∧ x.toInt < n) ∧ F_X10_requireChapter x c = some (.inl 3)) := by subst hc; exact p_rqChap x h
section
variable {A : Nat → Nat} {sc : Int32} {wc : Int32} {ord : Nat → Int32} {dur : Nat → Int32} {pau : Nat → Int32} {siz : Nat → Int32} {wor : Nat → Int32} {nam : Nat → Int64} {ns : Int32} {wi : Nat → Int32} {le : Nat → Int32} {re : Nat → Int32} {ex : Int32} {kn : Int32} {kt : Int32} {kr : Nat → Int32} {ks : Nat → Int32} {kd : Nat → Int32} {set : Nat → Int32} {stl : Int32} {cc : Int32} {bw : Int32} {dn : Int32} {lea : Int32} {mos : Int32} {chg : Nat → Int32} {fir : Nat → Int32} {cat : Nat → Int32} {sta : Nat → Int32} {bc : Int32} {bcn : Int32} {pl : Nat → Int32} {tim : Nat → Int32} {spd : Nat → Int32} {cnt : Nat → Int32} {hsz : Int32} {hol : Int32} {HI : Nat → gq_SH} {bl : Int32} {text : Nat → Int32} {ea : Int32} {pn : Int32} {pb : Nat → Int32} {a : Nat → Int64} {km : Int32} {kp : Nat → Int64} {bn : Int32} {buf : Nat → Int32} {qe : Int32} {wn : Int32} {wb : Nat → Int32} {tc : Int32} {tl : Int32} {wrt : Nat → Int32} {cuc : Nat → Int32} {las : Nat → Int32} {lef : Nat → Int32} {rig : Nat → Int32} {cos : Nat → Int32} {cut : Nat → Int32} {th : Int32} {W : Nat → Int32} {C : Nat → Int32} {E : Nat → Int32} {G : Nat → Int32} {Y : Nat → Int64} {qco : Nat → Int32} {qpl : Nat → Int32} {qcu : Nat → Int32}
theorem q_isSegm (hV : VA A) (hM : MR A a) (x : Int32) : F_X11_isSegment x a = some (bI (0 ≤ x.toInt ∧ x.toInt < A 6)) := by
  have hn := hV.n
  have h1 := q_isInS x (n := A 6) (m := 1) (by omega) (by omega)
  unfold F_X11_isSegment
  rw [q_many hM, ob1_some, show (0 : Int64) = lN 0 from rfl, show (1 : Int32) = nI 1 from rfl, h1, ob1_some]
  rw [show bI (0 ≤ x.toInt ∧ x.toInt ≤ (A 6 : Int) - (1 : Nat)) = bI (0 ≤ x.toInt ∧ x.toInt < A 6) from bI_c (by omega)]
  by_cases c : 0 ≤ x.toInt ∧ x.toInt < A 6
  · rw [bI_1 c, gb_1]
  · rw [bI_0 c, gb_0]
theorem q_isKnow (hV : VA A) (hM : MR A a) (x : Int32) : F_X11_isKnown x a = some (bI (0 ≤ x.toInt ∧ x.toInt < A 7)) := by
  have hn := hV.nw
  have h1 := q_isInN x (lo := 0) (hi := A 7 - 1) (by omega) (by omega)
  have h2 := q_isInS x (n := A 7) (m := 1) (by omega) (by omega)
  have e : lN (A 7) - lN 1 = (nI (A 7) - nI 1).toInt64 := by
    have : ∀ n, n ≤ 24 → lN n - lN 1 = (nI n - nI 1).toInt64 := by decide
    exact this _ hn
  unfold F_X11_isKnown
  rw [show (7 : Int32) = nI 7 from rfl, gi_n (by omega) (by omega), nI_clamp (by omega), hM.at (by omega), show (0 : Int64) = lN 0 from rfl, show (1 : Int64) = lN 1 from rfl, e, h2, ob1_some]
  rw [show bI (0 ≤ x.toInt ∧ x.toInt ≤ (A 7 : Int) - (1 : Nat)) = bI (0 ≤ x.toInt ∧ x.toInt < A 7) from bI_c (by omega)]
  by_cases c : 0 ≤ x.toInt ∧ x.toInt < A 7
  · rw [bI_1 c, gb_1]
  · rw [bI_0 c, gb_0]
theorem q_isSlt (hV : VA A) (hM : MR A a) (x : Int32) : F_X11_isSlot x a = some (bI (0 ≤ x.toInt ∧ x.toInt < A 8)) := by
  have hn := hV.nl
  have h2 := q_isInS x (n := A 8) (m := 1) (by omega) (by omega)
  have e : lN (A 8) - lN 1 = (nI (A 8) - nI 1).toInt64 := by
    have : ∀ n, n ≤ 24 → lN n - lN 1 = (nI n - nI 1).toInt64 := by decide
    exact this _ (by omega)
  unfold F_X11_isSlot
  rw [show (8 : Int32) = nI 8 from rfl, gi_n (by omega) (by omega), nI_clamp (by omega), hM.at (by omega), show (0 : Int64) = lN 0 from rfl, show (1 : Int64) = lN 1 from rfl, e, h2, ob1_some]
  rw [show bI (0 ≤ x.toInt ∧ x.toInt ≤ (A 8 : Int) - (1 : Nat)) = bI (0 ≤ x.toInt ∧ x.toInt < A 8) from bI_c (by omega)]
  by_cases c : 0 ≤ x.toInt ∧ x.toInt < A 8
  · rw [bI_1 c, gb_1]
  · rw [bI_0 c, gb_0]
theorem OU_v {l : List (Nat × Nat)} {v : Int32} : OU l (.inr v) (nI 0) v := ⟨rfl, rfl⟩
theorem OU_1 {c e : Nat} {l : List (Nat × Nat)} {r : Int32} : OU ((c, e) :: l) (.inl c) (nI e) r := ⟨e, List.mem_cons_self, rfl⟩
theorem OU_2 {c e c2 e2 : Nat} {l : List (Nat × Nat)} {r : Int32} : OU ((c2, e2) :: (c, e) :: l) (.inl c) (nI e) r := ⟨e, List.mem_cons_of_mem _ List.mem_cons_self, rfl⟩
theorem c_errorPosition (h : REL sc wc ord dur pau siz wor nam ns wi le re ex kn kt kr ks kd set stl cc bw dn lea mos chg fir cat sta bc bcn pl tim spd cnt hsz hol HI bl text ea pn pb a km kp bn buf qe wn wb tc tl) : ∃ res r th', F_X10_errorPosition ea = some res ∧ F_X11_errorPosition th qe = some (r, th') ∧ REL sc wc ord dur pau siz wor nam ns wi le re ex kn kt kr ks kd set stl cc bw dn lea mos chg fir cat sta bc bcn pl tim spd cnt hsz hol HI bl text ea pn pb a km kp bn buf qe wn wb tc tl ∧ th' = nI 0 ∧ r = res := by
  obtain ⟨A, H, m, T, b, L, hS, hC, hH, hB, hP, hM, hK, hB2, hE, hW, hc1, hc2⟩ := id h
  exact ⟨_, _, _, rfl, rfl, h, rfl, hE⟩
theorem c_setting {x : Int32} (h : REL sc wc ord dur pau siz wor nam ns wi le re ex kn kt kr ks kd set stl cc bw dn lea mos chg fir cat sta bc bcn pl tim spd cnt hsz hol HI bl text ea pn pb a km kp bn buf qe wn wb tc tl) : ∃ res r th', F_X10_setting x set = some res ∧ F_X11_setting x th a = some (r, th') ∧ REL sc wc ord dur pau siz wor nam ns wi le re ex kn kt kr ks kd set stl cc bw dn lea mos chg fir cat sta bc bcn pl tim spd cnt hsz hol HI bl text ea pn pb a km kp bn buf qe wn wb tc tl ∧ OU [(3,1)] res th' r := by
  obtain ⟨A, H, m, T, b, L, hS, hC, hH, hB, hP, hM, hK, hB2, hE, hW, hc1, hc2⟩ := id h
  have hq := q_isInN x (lo := 0) (hi := 5) (by omega) (by omega)
  unfold F_X10_setting F_X11_setting F_X11_setting_b18
  rw [show (0 : Int64) = lN 0 from rfl, show (5 : Int64) = lN 5 from rfl, hq, ob1_some]
  rcases p_rqSet x with ⟨s, h1, h2, h3⟩ | ⟨h1, h2⟩
  · subst h2
    have ht : (nI s).toInt = s := nI_toInt (by omega)
    rw [h3, ob1_some, xoq_r, gi_n h1 (by omega), nI_clamp (by omega), bI_1 (by rw [ht]; omega), if_neg (show ¬ nI 1 = (0 : Int32) by decide), if_pos (show (0 : Int32) ≤ 0 by decide), gi_n (by omega) (by omega), hM.at (by omega), lN_i, hS.2.2.2.2.at h1]
    exact ⟨_, _, _, rfl, rfl, h, OU_v⟩
  · rw [h2, ob1_some, xoq_l, bI_0 (fun h9 => h1 ⟨by omega, by omega⟩), if_pos (show nI 0 = (0 : Int32) from rfl), if_neg (show ¬ (1 : Int32) ≤ 0 by decide)]
    exact ⟨_, _, _, rfl, rfl, h, OU_1⟩
theorem c_find {x : Int64} (h : REL sc wc ord dur pau siz wor nam ns wi le re ex kn kt kr ks kd set stl cc bw dn lea mos chg fir cat sta bc bcn pl tim spd cnt hsz hol HI bl text ea pn pb a km kp bn buf qe wn wb tc tl) : ∃ res r th', F_X10_find x wc nam = some res ∧ F_X11_find x th a = some (r, th') ∧ REL sc wc ord dur pau siz wor nam ns wi le re ex kn kt kr ks kd set stl cc bw dn lea mos chg fir cat sta bc bcn pl tim spd cnt hsz hol HI bl text ea pn pb a km kp bn buf qe wn wb tc tl ∧ th' = nI 0 ∧ r = res := by
  obtain ⟨A, H, m, T, b, L, hS, hC, hH, hB, hP, hM, hK, hB2, hE, hW, hc1, hc2⟩ := id h
  unfold F_X10_find
  rw [p_numberOf hS.1.nw hS.2.1.2.1 hS.2.1.2.2.2 x, ob1_some, q_find hS.1 hM]
  exact ⟨_, _, _, rfl, rfl, h, rfl, rfl⟩
theorem c_segmentAt {x : Int32} (h : REL sc wc ord dur pau siz wor nam ns wi le re ex kn kt kr ks kd set stl cc bw dn lea mos chg fir cat sta bc bcn pl tim spd cnt hsz hol HI bl text ea pn pb a km kp bn buf qe wn wb tc tl) : ∃ res r th', F_X10_segmentAt x sc ord dur = some res ∧ F_X11_segmentAt x th a = some (r, th') ∧ REL sc wc ord dur pau siz wor nam ns wi le re ex kn kt kr ks kd set stl cc bw dn lea mos chg fir cat sta bc bcn pl tim spd cnt hsz hol HI bl text ea pn pb a km kp bn buf qe wn wb tc tl ∧ th' = nI 0 ∧ r = res := by
  obtain ⟨A, H, m, T, b, L, hS, hC, hH, hB, hP, hM, hK, hB2, hE, hW, hc1, hc2⟩ := id h
  unfold F_X10_segmentAt
  rw [p_segmentSpokenAt hS.1 hS.2.1, ob1_some, q_segmentAt hS.1 hM]
  exact ⟨_, _, _, rfl, rfl, h, rfl, rfl⟩
theorem c_wordOf {x y : Int32} (h : REL sc wc ord dur pau siz wor nam ns wi le re ex kn kt kr ks kd set stl cc bw dn lea mos chg fir cat sta bc bcn pl tim spd cnt hsz hol HI bl text ea pn pb a km kp bn buf qe wn wb tc tl) : ∃ res r th', F_X10_wordOf x y sc ord siz wor = some res ∧ F_X11_wordOf x y th a = some (r, th') ∧ REL sc wc ord dur pau siz wor nam ns wi le re ex kn kt kr ks kd set stl cc bw dn lea mos chg fir cat sta bc bcn pl tim spd cnt hsz hol HI bl text ea pn pb a km kp bn buf qe wn wb tc tl ∧ OU [(3,1)] res th' r := by
  obtain ⟨A, H, m, T, b, L, hS, hC, hH, hB, hP, hM, hK, hB2, hE, hW, hc1, hc2⟩ := id h
  have hn := hS.1.n
  have hsc := hS.2.1.1
  unfold F_X10_wordOf F_X11_wordOf F_X11_wordOf_b31 F_X11_wordOf_b32
  rw [q_isSegm hS.1 hM, ob1_some]
  rcases r_Seg x hsc (by omega) with ⟨s, h1, h2, h3⟩ | ⟨h1, h2⟩
  · subst h2
    have ht : (nI s).toInt = s := nI_toInt (by omega)
    have hg := hS.1.seg h1
    have hi := q_isInS y (n := oA A s 2) (m := 1) (by omega) (by omega)
    have hof := q_of hM (s := s) (w := 2) (by omega)
    have hof : F_X11_of (nI s) (2 : Int32) a = some (nI (oA A s 2)) := hof
    rw [h3, ob1_some, xoq_r, bI_1 (by rw [ht]; omega), if_neg (show ¬ nI 1 = (0 : Int32) by decide), hof, ob1_some, show (0 : Int64) = lN 0 from rfl, show (nI (oA A s 2) - (1 : Int32)) = nI (oA A s 2) - nI 1 from rfl, hi, ob1_some]
    by_cases c : y.toInt < 0
    · rw [if_pos ((rq_lt y).mpr c), bI_0 (by omega), if_pos (show nI 0 = (0 : Int32) from rfl), if_neg (show ¬ (1 : Int32) ≤ 0 by decide)]
      exact ⟨_, _, _, rfl, rfl, h, OU_1⟩
    · rw [if_neg (fun h9 => c ((rq_lt y).mp h9)), p_sizeOf hS.1 hS.2.1 h1, ob1_some]
      obtain ⟨k, e1, e2, e3⟩ := rq_at (x := y) (by omega)
      subst e1
      have hk : (nI k).toInt = k := nI_toInt e3
      by_cases c2 : k < oA A s 2
      · have hof2 := q_of hM (s := s) (w := 3 + k) (by omega)
        rw [if_pos (nI_lt c2 (by omega)), p_wordAt hS.1 hS.2.1 h1 c2, ob1_some, bI_1 (by rw [hk]; omega), if_neg (show ¬ nI 1 = (0 : Int32) by decide), if_pos (show (0 : Int32) ≤ 0 by decide), show (3 : Int32) + nI k = nI (3 + k) from nI_add 3 k, hof2, ob1_some]
        exact ⟨_, _, _, rfl, rfl, h, OU_v⟩
      · rw [if_neg (fun h9 => c2 ((nI_ltI e3 (by omega)).mp h9)), bI_0 (by rw [hk]; omega), if_pos (show nI 0 = (0 : Int32) from rfl), if_neg (show ¬ (1 : Int32) ≤ 0 by decide)]
        exact ⟨_, _, _, rfl, rfl, h, OU_1⟩
  · rw [h2, ob1_some, xoq_l, bI_0 h1, if_pos (show nI 0 = (0 : Int32) from rfl), if_neg (show ¬ (1 : Int32) ≤ 0 by decide)]
    exact ⟨_, _, _, rfl, rfl, h, OU_1⟩
theorem c_uses {x y z : Int32} (h : REL sc wc ord dur pau siz wor nam ns wi le re ex kn kt kr ks kd set stl cc bw dn lea mos chg fir cat sta bc bcn pl tim spd cnt hsz hol HI bl text ea pn pb a km kp bn buf qe wn wb tc tl) : ∃ res r th', F_X10_uses x y z sc wc ord siz wor = some res ∧ F_X11_uses x y z th a = some (r, th') ∧ REL sc wc ord dur pau siz wor nam ns wi le re ex kn kt kr ks kd set stl cc bw dn lea mos chg fir cat sta bc bcn pl tim spd cnt hsz hol HI bl text ea pn pb a km kp bn buf qe wn wb tc tl ∧ OU [(3,1), (2,2)] res th' r := by
  obtain ⟨A, H, m, T, b, L, hS, hC, hH, hB, hP, hM, hK, hB2, hE, hW, hc1, hc2⟩ := id h
  have hn := hS.1.n
  have hnw := hS.1.nw
  have hsc := hS.2.1.1
  have hwc := hS.2.1.2.1
  unfold F_X10_uses F_X11_uses F_X11_uses_b25 F_X11_uses_b39
  rw [q_isKnow hS.1 hM, ob1_some]
  rcases r_Word x hwc (by omega) with ⟨w, h1, h2, h3⟩ | ⟨h1, h2⟩
  · subst h2
    have ht : (nI w).toInt = w := nI_toInt (by omega)
    rw [h3, ob1_some, xoq_r, bI_1 (by rw [ht]; omega), if_neg (show ¬ nI 1 = (0 : Int32) by decide), q_isSegm hS.1 hM, ob1_some]
    rcases r_Seg y hsc (by omega) with ⟨s, h4, h5, h6⟩ | ⟨h4, h5⟩
    · subst h5
      have ht2 : (nI s).toInt = s := nI_toInt (by omega)
      rw [h6, ob1_some, xoq_r, bI_1 (by rw [ht2]; omega), if_neg (show ¬ nI 1 = (0 : Int32) by decide), q_isSegm hS.1 hM, ob1_some]
      rcases r_Seg z hsc (by omega) with ⟨t, h7, h8, h9⟩ | ⟨h7, h8⟩
      · subst h8
        have ht3 : (nI t).toInt = t := nI_toInt (by omega)
        rw [h9, ob1_some, xoq_r, bI_1 (by rw [ht3]; omega), if_neg (show ¬ nI 1 = (0 : Int32) by decide)]
        by_cases c : s ≤ t
        · rw [if_pos (nI_le c (by omega)), if_pos (nI_le c (by omega)), p_countIn hS.1 hS.2.1 (by omega) (by omega) h7, ob1_some, if_pos (show (0 : Int32) ≤ 0 by decide), q_usesIn hS.1 hM (by omega) (by omega) h7, ob1_some]
          exact ⟨_, _, _, rfl, rfl, h, OU_v⟩
        · have c2 : ¬ nI s ≤ nI t := fun h9 => c ((nI_leI (by omega) (by omega)).mp h9)
          rw [if_neg c2, if_neg c2, if_neg (show ¬ (2 : Int32) ≤ 0 by decide)]
          exact ⟨_, _, _, rfl, rfl, h, OU_2⟩
      · rw [h8, ob1_some, xoq_l, bI_0 h7, if_pos (show nI 0 = (0 : Int32) from rfl), if_neg (show ¬ (1 : Int32) ≤ 0 by decide)]
        exact ⟨_, _, _, rfl, rfl, h, OU_1⟩
    · rw [h5, ob1_some, xoq_l, bI_0 h4, if_pos (show nI 0 = (0 : Int32) from rfl), if_neg (show ¬ (1 : Int32) ≤ 0 by decide)]
      exact ⟨_, _, _, rfl, rfl, h, OU_1⟩
  · rw [h2, ob1_some, xoq_l, bI_0 h1, if_pos (show nI 0 = (0 : Int32) from rfl), if_neg (show ¬ (1 : Int32) ≤ 0 by decide)]
    exact ⟨_, _, _, rfl, rfl, h, OU_1⟩
end
