section
variable {A : Nat → Nat} {sc : Int32} {wc : Int32} {ord : Nat → Int32} {dur : Nat → Int32} {pau : Nat → Int32} {siz : Nat → Int32} {wor : Nat → Int32} {nam : Nat → Int64} {ns : Int32} {wi : Nat → Int32} {le : Nat → Int32} {re : Nat → Int32} {ex : Int32} {kn : Int32} {kt : Int32} {kr : Nat → Int32} {ks : Nat → Int32} {kd : Nat → Int32} {set : Nat → Int32} {stl : Int32} {cc : Int32} {bw : Int32} {dn : Int32} {lea : Int32} {mos : Int32} {chg : Nat → Int32} {fir : Nat → Int32} {cat : Nat → Int32} {sta : Nat → Int32} {bc : Int32} {bcn : Int32} {pl : Nat → Int32} {tim : Nat → Int32} {spd : Nat → Int32} {cnt : Nat → Int32} {hsz : Int32} {hol : Int32} {HI : Nat → gq_SH} {bl : Int32} {text : Nat → Int32} {ea : Int32} {pn : Int32} {pb : Nat → Int32} {a : Nat → Int64} {km : Int32} {kp : Nat → Int64} {bn : Int32} {buf : Nat → Int32} {qe : Int32} {wn : Int32} {wb : Nat → Int32} {tc : Int32} {tl : Int32} {wrt : Nat → Int32} {cuc : Nat → Int32} {las : Nat → Int32} {lef : Nat → Int32} {rig : Nat → Int32} {cos : Nat → Int32} {cut : Nat → Int32} {th : Int32} {W : Nat → Int32} {C : Nat → Int32} {E : Nat → Int32} {G : Nat → Int32} {Y : Nat → Int64} {qco : Nat → Int32} {qpl : Nat → Int32} {qcu : Nat → Int32}
theorem c_slot {x y : Int32} (h : REL sc wc ord dur pau siz wor nam ns wi le re ex kn kt kr ks kd set stl cc bw dn lea mos chg fir cat sta bc bcn pl tim spd cnt hsz hol HI bl text ea pn pb a km kp bn buf qe wn wb tc tl) : ∃ res r th', F_X10_slot x y ns wi le re = some res ∧ F_X11_slot x y th a = some (r, th') ∧ REL sc wc ord dur pau siz wor nam ns wi le re ex kn kt kr ks kd set stl cc bw dn lea mos chg fir cat sta bc bcn pl tim spd cnt hsz hol HI bl text ea pn pb a km kp bn buf qe wn wb tc tl ∧ OU [(3,1), (2,2)] res th' r := by
  obtain ⟨A, H, m, T, b, L, hS, hC, hH, hB, hP, hM, hK, hB2, hE, hW, hc1, hc2⟩ := id h
  have hn := hS.1.nl
  have hns := hS.2.2.1.1
  have hi := q_isInN y (lo := 0) (hi := 2) (by omega) (by omega)
  unfold F_X10_slot F_X11_slot F_X11_slot_b30
  rw [q_isSlt hS.1 hM, ob1_some]
  rcases r_Slot x hns (by omega) with ⟨s, h1, h2, h3⟩ | ⟨h1, h2⟩
  · subst h2
    have ht : (nI s).toInt = s := nI_toInt (by omega)
    have hv := hS.2.2.1.2 s h1
    rw [h3, ob1_some, xoq_r, bI_1 (by rw [ht]; omega), if_neg (show ¬ nI 1 = (0 : Int32) by decide), show (0 : Int64) = lN 0 from rfl, show (2 : Int64) = lN 2 from rfl, hi, ob1_some, gi_n (by omega) (by omega), gi_n (by omega) (by omega), gi_n (by omega) (by omega), nI_clamp (by omega), hv.1, hv.2.1, hv.2.2]
    by_cases c0 : y = 0
    · subst c0
      rw [if_pos rfl, bI_1 (by decide), if_neg (show ¬ nI 1 = (0 : Int32) by decide), if_pos (show (0 : Int32) ≤ 0 by decide)]
      have hq := q_ofSlot hS.1 hM (i := s) (w := 0) h1 (by omega)
      have hq : F_X11_ofSlot (nI s) (0 : Int32) a = some (nI (A (394 + 3 * s + 0))) := hq
      rw [hq, ob1_some]
      exact ⟨_, _, _, rfl, rfl, h, OU_v⟩
    · rw [if_neg c0]
      by_cases c1 : y = 1
      · subst c1
        rw [if_pos rfl, bI_1 (by decide), if_neg (show ¬ nI 1 = (0 : Int32) by decide), if_pos (show (0 : Int32) ≤ 0 by decide)]
        have hq := q_ofSlot hS.1 hM (i := s) (w := 1) h1 (by omega)
        have hq : F_X11_ofSlot (nI s) (1 : Int32) a = some (nI (A (394 + 3 * s + 1))) := hq
        rw [hq, ob1_some]
        exact ⟨_, _, _, rfl, rfl, h, OU_v⟩
      · rw [if_neg c1]
        by_cases c2 : y = 2
        · subst c2
          rw [if_pos rfl, bI_1 (by decide), if_neg (show ¬ nI 1 = (0 : Int32) by decide), if_pos (show (0 : Int32) ≤ 0 by decide)]
          have hq := q_ofSlot hS.1 hM (i := s) (w := 2) h1 (by omega)
          have hq : F_X11_ofSlot (nI s) (2 : Int32) a = some (nI (A (394 + 3 * s + 2))) := hq
          rw [hq, ob1_some]
          exact ⟨_, _, _, rfl, rfl, h, OU_v⟩
        · have hno : ¬ (((0 : Nat) : Int) ≤ y.toInt ∧ y.toInt ≤ ((2 : Nat) : Int)) := by
            intro h9
            obtain ⟨k, e1, e2, e3⟩ := rq_at (x := y) (by omega)
            subst e1
            rcases (show k = 0 ∨ k = 1 ∨ k = 2 by omega) with e | e | e <;> subst e
            · exact c0 rfl
            · exact c1 rfl
            · exact c2 rfl
          rw [if_neg c2, bI_0 hno, if_pos (show nI 0 = (0 : Int32) from rfl), if_neg (show ¬ (2 : Int32) ≤ 0 by decide)]
          exact ⟨_, _, _, rfl, rfl, h, OU_2⟩
  · rw [h2, ob1_some, xoq_l, bI_0 h1, if_pos (show nI 0 = (0 : Int32) from rfl), if_neg (show ¬ (1 : Int32) ≤ 0 by decide)]
    exact ⟨_, _, _, rfl, rfl, h, OU_1⟩
theorem c_writtenByte {x : Int32} (h : REL sc wc ord dur pau siz wor nam ns wi le re ex kn kt kr ks kd set stl cc bw dn lea mos chg fir cat sta bc bcn pl tim spd cnt hsz hol HI bl text ea pn pb a km kp bn buf qe wn wb tc tl) : ∃ res r th', F_X10_writtenByte x pn pb = some res ∧ F_X11_writtenByte x th wn wb = some (r, th') ∧ REL sc wc ord dur pau siz wor nam ns wi le re ex kn kt kr ks kd set stl cc bw dn lea mos chg fir cat sta bc bcn pl tim spd cnt hsz hol HI bl text ea pn pb a km kp bn buf qe wn wb tc tl ∧ OU [(3,1)] res th' r := by
  obtain ⟨A, H, m, T, b, L, hS, hC, hH, hB, hP, hM, hK, hB2, hE, hW, hc1, hc2⟩ := id h
  have hl := hP.2
  have hpn := hP.1.1
  have hwn := hW.1
  have hi := q_isInS x (n := L.length) (m := 1) (by omega) (by omega)
  unfold F_X10_writtenByte F_X11_writtenByte F_X11_writtenByte_b22
  rw [show (wn - (1 : Int32)) = nI L.length - nI 1 by rw [hwn]; rfl, show (0 : Int64) = lN 0 from rfl, hi, ob1_some]
  by_cases c : x < (0 : Int32)
  · have := (rq_lt x).mp c
    rw [if_pos c, bI_0 (by omega), if_pos (show nI 0 = (0 : Int32) from rfl), if_neg (show ¬ (1 : Int32) ≤ 0 by decide)]
    exact ⟨_, _, _, rfl, rfl, h, OU_1⟩
  · have c0 : ¬ x.toInt < 0 := fun h9 => c ((rq_lt x).mpr h9)
    rw [if_neg c]
    obtain ⟨k, e1, e2, e3⟩ := rq_at (x := x) (by omega)
    subst e1
    have hk : (nI k).toInt = k := nI_toInt e3
    by_cases c2 : k < L.length
    · have c3 : nI k < pn := by rw [hpn]; exact nI_lt c2 (by omega)
      rw [if_pos c3, gi_n (by omega) (by omega), nI_clamp (by omega), bI_1 (by rw [hk]; omega), if_neg (show ¬ nI 1 = (0 : Int32) by decide), if_pos (show (0 : Int32) ≤ 0 by decide), gi_n (by omega) (by omega), hP.1.2 k c2, hW.2 k c2]
      exact ⟨_, _, _, rfl, rfl, h, OU_v⟩
    · have c3 : ¬ nI k < pn := by rw [hpn]; exact fun h9 => c2 ((nI_ltI e3 (by omega)).mp h9)
      rw [if_neg c3, bI_0 (by rw [hk]; omega), if_pos (show nI 0 = (0 : Int32) from rfl), if_neg (show ¬ (1 : Int32) ≤ 0 by decide)]
      exact ⟨_, _, _, rfl, rfl, h, OU_1⟩
theorem c_append {x1 x2 x3 x4 x5 : Int32} (h : REL sc wc ord dur pau siz wor nam ns wi le re ex kn kt kr ks kd set stl cc bw dn lea mos chg fir cat sta bc bcn pl tim spd cnt hsz hol HI bl text ea pn pb a km kp bn buf qe wn wb tc tl) : ∃ res r bl' text' th' bn' buf', F_X10_append x1 x2 x3 x4 x5 bl text = some (res, bl', text') ∧ F_X11_append x1 x2 x3 x4 x5 th bn buf = some (r, th', bn', buf') ∧ REL sc wc ord dur pau siz wor nam ns wi le re ex kn kt kr ks kd set stl cc bw dn lea mos chg fir cat sta bc bcn pl tim spd cnt hsz hol HI bl' text' ea pn pb a km kp bn' buf' qe wn wb tc tl ∧ OU [(1,1)] res th' r := by
  obtain ⟨A, H, m, T, b, L, hS, hC, hH, hB, hP, hM, hK, hB2, hE, hW, hc1, hc2⟩ := id h
  obtain ⟨e1, t1⟩ := hB
  obtain ⟨e2, t2⟩ := hB2
  have hb := t1.1
  have g1 := p_append (x1 := x1) (x2 := x2) (x3 := x3) (x4 := x4) (x5 := x5) (text := text) hb
  have g2 := q_append (x1 := x1) (x2 := x2) (x3 := x3) (x4 := x4) (x5 := x5) (th := th) (text := buf) hb
  rw [← e1] at g1
  rw [← e2] at g2
  by_cases c : b + 20 ≤ 900
  · obtain ⟨t', f1, f2, f3⟩ := g1.2 c
    obtain ⟨t2', f4, f5, f6⟩ := g2.2 c
    obtain ⟨T', hT'⟩ := tx_append (T := T) (x1 := x1) (x2 := x2) (x3 := x3) (x4 := x4) (x5 := x5) c
    rw [f1, f4]
    exact ⟨_, _, _, _, _, _, _, rfl, rfl, ⟨A, H, m, T', b + 20, L, hS, hC, hH, ⟨rfl, hT' _ _ t1 f2 f3⟩, hP, hM, hK, ⟨rfl, hT' _ _ t2 f5 f6⟩, hE, hW, hc1, hc2⟩, OU_v⟩
  · rw [g1.1 c, g2.1 c]
    exact ⟨_, _, _, _, _, _, _, rfl, rfl, h, OU_1⟩
theorem kt_le (hV : VA A) : ksm A (A 410) ≤ 31968 := by
  have h := hV.kept
  have key : ∀ s, s ≤ A 410 → ksm A s ≤ 999 * s := by
    intro s
    induction s with
    | zero => intro _; exact Nat.le_refl _
    | succ s ih =>
      intro hs
      have h1 := ih (by omega)
      have h2 := h.2.2 s (by omega)
      rw [ksm_s]
      omega
  have := key _ (Nat.le_refl _)
  omega
theorem c_carried {x : Int32} (h : REL sc wc ord dur pau siz wor nam ns wi le re ex kn kt kr ks kd set stl cc bw dn lea mos chg fir cat sta bc bcn pl tim spd cnt hsz hol HI bl text ea pn pb a km kp bn buf qe wn wb tc tl) : ∃ res r th', F_X10_carried x sc ord dur ex kn kt kr ks kd = some res ∧ F_X11_carried x th a = some (r, th') ∧ REL sc wc ord dur pau siz wor nam ns wi le re ex kn kt kr ks kd set stl cc bw dn lea mos chg fir cat sta bc bcn pl tim spd cnt hsz hol HI bl text ea pn pb a km kp bn buf qe wn wb tc tl ∧ OU [(1,1), (2,2)] res th' r := by
  obtain ⟨A, H, m, T, b, L, hS, hC, hH, hB, hP, hM, hK, hB2, hE, hW, hc1, hc2⟩ := id h
  have hk1 := hS.1.kept.1
  have hkr := hS.2.2.2.1
  have hkl := kt_le hS.1
  unfold F_X10_carried F_X11_carried
  rw [show (409 : Int32) = nI 409 from rfl, gi_n (by omega) (by omega), nI_clamp (by omega), hM.at (by omega)]
  have hz : (lg_cmp (lN (A 409)) (0 : Int64) = (0 : Int32)) ↔ A 409 = 0 := by
    rw [lg_cmp_eq]
    exact lN_eq (b := 0) (by omega) (by omega)
  by_cases c : A 409 = 0
  · rw [if_pos (show ex = (0 : Int32) by rw [hkr.1, c]; rfl), if_pos (hz.mpr c)]
    unfold F_X11_carried_b39
    rw [if_neg (show ¬ (1 : Int32) ≤ 0 by decide)]
    exact ⟨_, _, _, rfl, rfl, h, OU_1⟩
  · have c1 : A 409 = 1 := by omega
    have hk := hkr.2 c1
    rw [if_neg (show ¬ ex = (0 : Int32) by rw [hkr.1, c1]; decide), if_neg (fun h9 => c (hz.mp h9)), q_keptTime hS.1 hM, ob1_some]
    have hi := q_isInS x (n := ksm A (A 410)) (m := 1) (by omega) (by omega)
    rw [show (0 : Int64) = lN 0 from rfl, show (nI (ksm A (A 410)) - (1 : Int32)) = nI (ksm A (A 410)) - nI 1 from rfl, hi, ob1_some]
    have hrq : (F_X10_requireRange x (0 : Int32) (kt - (1 : Int32)) = if 0 ≤ x.toInt ∧ x.toInt ≤ (ksm A (A 410) : Int) - (1 : Nat) then some (.inr ()) else some (.inl 2)) := by
      unfold F_X10_requireRange
      have hle : x ≤ kt - (1 : Int32) ↔ x.toInt ≤ (ksm A (A 410) : Int) - (1 : Nat) := by
        rw [hk.2.1, Int32.le_iff_toInt_le, show nI (ksm A (A 410)) - (1 : Int32) = nI (ksm A (A 410)) - nI 1 from rfl, pk_sub_toInt (by omega) (by omega)]
      by_cases d : x < (0 : Int32)
      · have := (rq_lt x).mp d
        rw [if_pos d, if_neg (by omega)]
        rfl
      · have d0 : ¬ x.toInt < 0 := fun h9 => d ((rq_lt x).mpr h9)
        rw [if_neg d]
        by_cases d2 : x ≤ kt - (1 : Int32)
        · rw [if_pos d2, if_pos ⟨by omega, hle.mp d2⟩]
        · rw [if_neg d2, if_neg (fun h9 => d2 (hle.mpr h9.2))]
          rfl
    rw [hrq]
    by_cases d : 0 ≤ x.toInt ∧ x.toInt ≤ (ksm A (A 410) : Int) - (1 : Nat)
    · obtain ⟨t, e1, e2, e3⟩ := rq_at (x := x) d.1
      subst e1
      have ht : (nI t).toInt = t := nI_toInt e3
      rw [if_pos d, ob1_some, xoq_r, bI_1 d, if_neg (show ¬ nI 1 = (0 : Int32) by decide)]
      obtain ⟨r1, f1, f2⟩ := p_carry hS.1 hS.2.1 hkr c1 (t := t) (by omega)
      obtain ⟨r2, f3, f4⟩ := q_carriedOk hS.1 hM (t := t) (th := th) (by omega)
      have e := CR_one f2 f4
      subst e
      have f3 : F_X11_carried_b39 (nI t) (0 : Int32) th a = some (nI r1, nI 0) := f3
      rw [f1, ob1_some, f3]
      exact ⟨_, _, _, rfl, rfl, h, OU_v⟩
    · rw [if_neg d, ob1_some, xoq_l, bI_0 d, if_pos (show nI 0 = (0 : Int32) from rfl)]
      unfold F_X11_carried_b39
      rw [if_neg (show ¬ (2 : Int32) ≤ 0 by decide)]
      exact ⟨_, _, _, rfl, rfl, h, OU_2⟩
theorem c_count {x : Int32} (h : REL sc wc ord dur pau siz wor nam ns wi le re ex kn kt kr ks kd set stl cc bw dn lea mos chg fir cat sta bc bcn pl tim spd cnt hsz hol HI bl text ea pn pb a km kp bn buf qe wn wb tc tl) : ∃ res r th', F_X10_count x sc wc ord dur pau siz ns set = some res ∧ F_X11_count x th a = some (r, th') ∧ REL sc wc ord dur pau siz wor nam ns wi le re ex kn kt kr ks kd set stl cc bw dn lea mos chg fir cat sta bc bcn pl tim spd cnt hsz hol HI bl text ea pn pb a km kp bn buf qe wn wb tc tl ∧ OU [(2,1)] res th' r := by
  obtain ⟨A, H, m, T, b, L, hS, hC, hH, hB, hP, hM, hK, hB2, hE, hW, hc1, hc2⟩ := id h
  have hn := hS.1.n
  have hsc := hS.2.1.1
  have hi := q_isInN x (lo := 0) (hi := 5) (by omega) (by omega)
  unfold F_X10_count F_X11_count F_X11_count_b18
  rw [show (0 : Int64) = lN 0 from rfl, show (5 : Int64) = lN 5 from rfl, hi, ob1_some]
  by_cases c : ((0 : Nat) : Int) ≤ x.toInt ∧ x.toInt ≤ ((5 : Nat) : Int)
  · obtain ⟨t, e1, e2, e3⟩ := rq_at (x := x) (by omega)
    subst e1
    rw [bI_1 c, if_neg (show ¬ nI 1 = (0 : Int32) by decide), if_pos (show (0 : Int32) ≤ 0 by decide)]
    rcases (show t = 0 ∨ t = 1 ∨ t = 2 ∨ t = 3 ∨ t = 4 ∨ t = 5 by omega) with e | e | e | e | e | e <;> subst e
    · rw [if_pos (show nI 0 = (0 : Int32) by decide), if_neg (show ¬ nI 0 = (3 : Int32) by decide), if_neg (show ¬ nI 0 = (4 : Int32) by decide), if_neg (show ¬ nI 0 = (5 : Int32) by decide), show (6 : Int32) + nI 0 = nI 6 from rfl, gi_n (by omega) (by omega), nI_clamp (by omega), hM.at (by omega), lN_i, ← hsc]
      exact ⟨_, _, _, rfl, rfl, h, OU_v⟩
    · rw [if_neg (show ¬ nI 1 = (0 : Int32) by decide), if_pos (show nI 1 = (1 : Int32) by decide), if_neg (show ¬ nI 1 = (3 : Int32) by decide), if_neg (show ¬ nI 1 = (4 : Int32) by decide), if_neg (show ¬ nI 1 = (5 : Int32) by decide), show (6 : Int32) + nI 1 = nI 7 from rfl, gi_n (by omega) (by omega), nI_clamp (by omega), hM.at (by omega), lN_i, ← hS.2.1.2.1]
      exact ⟨_, _, _, rfl, rfl, h, OU_v⟩
    · rw [if_neg (show ¬ nI 2 = (0 : Int32) by decide), if_neg (show ¬ nI 2 = (1 : Int32) by decide), if_pos (show nI 2 = (2 : Int32) by decide), if_neg (show ¬ nI 2 = (3 : Int32) by decide), if_neg (show ¬ nI 2 = (4 : Int32) by decide), if_neg (show ¬ nI 2 = (5 : Int32) by decide), show (6 : Int32) + nI 2 = nI 8 from rfl, gi_n (by omega) (by omega), nI_clamp (by omega), hM.at (by omega), lN_i, ← hS.2.2.1.1]
      exact ⟨_, _, _, rfl, rfl, h, OU_v⟩
    · have g := p_startOf hS.1 hS.2.1 (Nat.le_refl _)
      rw [← hsc] at g
      rw [if_neg (show ¬ nI 3 = (0 : Int32) by decide), if_neg (show ¬ nI 3 = (1 : Int32) by decide), if_neg (show ¬ nI 3 = (2 : Int32) by decide), if_pos (show nI 3 = (3 : Int32) by decide), if_pos (show nI 3 = (3 : Int32) by decide), g, ob1_some, q_many hM, ob1_some, q_spoken hS.1 hM (Nat.le_refl _), ob1_some]
      exact ⟨_, _, _, rfl, rfl, h, OU_v⟩
    · rw [if_neg (show ¬ nI 4 = (0 : Int32) by decide), if_neg (show ¬ nI 4 = (1 : Int32) by decide), if_neg (show ¬ nI 4 = (2 : Int32) by decide), if_neg (show ¬ nI 4 = (3 : Int32) by decide), if_pos (show nI 4 = (4 : Int32) by decide), if_neg (show ¬ nI 4 = (3 : Int32) by decide), if_pos (show nI 4 = (4 : Int32) by decide), p_allWords hS.1 hS.2.1, ob1_some, q_wordsOfAll hS.1 hM, ob1_some]
      exact ⟨_, _, _, rfl, rfl, h, OU_v⟩
    · have h4 : set (4 : Int32).toNatClampNeg = nI (A 4) := hS.2.2.2.2.at (k := 4) (by omega)
      rw [if_neg (show ¬ nI 5 = (0 : Int32) by decide), if_neg (show ¬ nI 5 = (1 : Int32) by decide), if_neg (show ¬ nI 5 = (2 : Int32) by decide), if_neg (show ¬ nI 5 = (3 : Int32) by decide), if_neg (show ¬ nI 5 = (4 : Int32) by decide), if_pos (show nI 5 = (5 : Int32) by decide), if_neg (show ¬ nI 5 = (3 : Int32) by decide), if_neg (show ¬ nI 5 = (4 : Int32) by decide), if_pos (show nI 5 = (5 : Int32) by decide), h4, p_longPauses hS.1 hS.2.1, ob1_some, q_longPauses hS.1 hM, ob1_some]
      have : gi (4 : Int32) 6 (some (Sum.inr (nI (lp A (A 6 - 1))) : Nat ⊕ Int32)) = some (.inr (nI (lp A (A 6 - 1)))) := gi_n (j := 4) (by omega) (by omega)
      rw [this]
      exact ⟨_, _, _, rfl, rfl, h, OU_v⟩
  · have hno : ∀ k : Nat, k ≤ 5 → ¬ x = nI k := by
      intro k hk e
      subst e
      have : (nI k).toInt = k := nI_toInt (by omega)
      omega
    rw [if_neg (show ¬ x = (0 : Int32) from hno 0 (by omega)), if_neg (show ¬ x = (1 : Int32) from hno 1 (by omega)), if_neg (show ¬ x = (2 : Int32) from hno 2 (by omega)), if_neg (show ¬ x = (3 : Int32) from hno 3 (by omega)), if_neg (show ¬ x = (4 : Int32) from hno 4 (by omega)), if_neg (show ¬ x = (5 : Int32) from hno 5 (by omega)), bI_0 c, if_pos (show nI 0 = (0 : Int32) from rfl), if_neg (show ¬ (1 : Int32) ≤ 0 by decide)]
    exact ⟨_, _, _, rfl, rfl, h, OU_1⟩
end
