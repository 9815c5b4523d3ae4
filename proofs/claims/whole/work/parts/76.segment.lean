section
variable {A : Nat → Nat} {sc : Int32} {wc : Int32} {ord : Nat → Int32} {dur : Nat → Int32} {pau : Nat → Int32} {siz : Nat → Int32} {wor : Nat → Int32} {nam : Nat → Int64} {ns : Int32} {wi : Nat → Int32} {le : Nat → Int32} {re : Nat → Int32} {ex : Int32} {kn : Int32} {kt : Int32} {kr : Nat → Int32} {ks : Nat → Int32} {kd : Nat → Int32} {set : Nat → Int32} {stl : Int32} {cc : Int32} {bw : Int32} {dn : Int32} {lea : Int32} {mos : Int32} {chg : Nat → Int32} {fir : Nat → Int32} {cat : Nat → Int32} {sta : Nat → Int32} {bc : Int32} {bcn : Int32} {pl : Nat → Int32} {tim : Nat → Int32} {spd : Nat → Int32} {cnt : Nat → Int32} {hsz : Int32} {hol : Int32} {HI : Nat → gq_SH} {bl : Int32} {text : Nat → Int32} {ea : Int32} {pn : Int32} {pb : Nat → Int32} {a : Nat → Int64} {km : Int32} {kp : Nat → Int64} {bn : Int32} {buf : Nat → Int32} {qe : Int32} {wn : Int32} {wb : Nat → Int32} {tc : Int32} {tl : Int32} {wrt : Nat → Int32} {cuc : Nat → Int32} {las : Nat → Int32} {lef : Nat → Int32} {rig : Nat → Int32} {cos : Nat → Int32} {cut : Nat → Int32} {th : Int32} {W : Nat → Int32} {C : Nat → Int32} {E : Nat → Int32} {G : Nat → Int32} {Y : Nat → Int64} {qco : Nat → Int32} {qpl : Nat → Int32} {qcu : Nat → Int32}
theorem c_segment {x0 x1 : Int32} (h : REL sc wc ord dur pau siz wor nam ns wi le re ex kn kt kr ks kd set stl cc bw dn lea mos chg fir cat sta bc bcn pl tim spd cnt hsz hol HI bl text ea pn pb a km kp bn buf qe wn wb tc tl) : ∃ res r stl' cc' bw' dn' lea' mos' chg' fir' cat' wrt' cuc' las' sta' lef' rig' bc' bcn' pl' cos' tim' cut' spd' cnt' th' W' C' E' G' Y' qco' qpl' qcu', F_X10_segment x0 x1 stl sc ord dur pau siz wor ns wi le re set cc bw dn lea mos chg fir cat wrt cuc las sta lef rig bc bcn pl cos tim cut spd cnt = some (res, stl', cc', bw', dn', lea', mos', chg', fir', cat', wrt', cuc', las', sta', lef', rig', bc', bcn', pl', cos', tim', cut', spd', cnt') ∧ F_X11_segment x0 x1 th tc tl a W C E G Y qco qpl qcu = some (r, th', W', C', E', G', Y', qco', qpl', qcu') ∧ REL sc wc ord dur pau siz wor nam ns wi le re ex kn kt kr ks kd set stl' cc' bw' dn' lea' mos' chg' fir' cat' sta' bc' bcn' pl' tim' spd' cnt' hsz hol HI bl text ea pn pb a km kp bn buf qe wn wb tc tl ∧ OU [(3,1), (2,2)] res th' r := by
  obtain ⟨A, H, m, T, b, L, hS, hC, hH, hB, hP, hM, hK, hB2, hE, hW, hc1, hc2⟩ := id h
  subst hc1; subst hc2
  have hn := hS.1.n
  have hsc := hS.2.1.1
  have hi := q_isInN x1 (lo := 0) (hi := 4) (by omega) (by omega)
  unfold F_X10_segment F_X11_segment F_X11_segment_b30
  rw [q_isSegm hS.1 hM, ob1_some, show (0 : Int64) = lN 0 from rfl, show (4 : Int64) = lN 4 from rfl, hi]
  rcases r_Seg x0 hsc (by omega) with ⟨s, h1, h2, h3⟩ | ⟨h1, h2⟩
  · subst h2
    have ht : (nI s).toInt = s := nI_toInt (by omega)
    rw [h3, ob1_some, xoq_r, bI_1 (show 0 ≤ (nI s).toInt ∧ (nI s).toInt < A 6 by rw [ht]; omega), if_neg n10, ob1_some]
    by_cases c : ((0 : Nat) : Int) ≤ x1.toInt ∧ x1.toInt ≤ ((4 : Nat) : Int)
    · obtain ⟨t, e1, e2, e3⟩ := rq_at (x := x1) (by omega)
      subst e1
      rw [bI_1 c, if_neg n10, if_pos l00]
      rcases (show t = 0 ∨ t = 1 ∨ t = 2 ∨ t = 3 ∨ t = 4 by omega) with e | e | e | e | e <;> subst e
      · have g : F_X11_of (nI s) (nI 0) a = some (nI (oA A s 0)) := q_of hM (by omega)
        rw [if_pos (show nI 0 = (0 : Int32) by decide), p_durationOf hS.1 hS.2.1 h1, ob1_some, if_neg (show ¬ nI 0 = (3 : Int32) by decide), if_neg (show ¬ nI 0 = (4 : Int32) by decide), g, ob1_some]
        exact ⟨_, _, _, _, _, _, _, _, _, _, _, _, _, _, _, _, _, _, _, _, _, _, _, _, _, _, _, _, _, _, _, _, _, _, rfl, rfl, h, OU_v⟩
      · have g : F_X11_of (nI s) (nI 1) a = some (nI (oA A s 1)) := q_of hM (by omega)
        rw [if_neg (show ¬ nI 1 = (0 : Int32) by decide), if_pos (show nI 1 = (1 : Int32) by decide), p_pauseOf hS.1 hS.2.1 h1, ob1_some, if_neg (show ¬ nI 1 = (3 : Int32) by decide), if_neg (show ¬ nI 1 = (4 : Int32) by decide), g, ob1_some]
        exact ⟨_, _, _, _, _, _, _, _, _, _, _, _, _, _, _, _, _, _, _, _, _, _, _, _, _, _, _, _, _, _, _, _, _, _, rfl, rfl, h, OU_v⟩
      · have g : F_X11_of (nI s) (nI 2) a = some (nI (oA A s 2)) := q_of hM (by omega)
        rw [if_neg (show ¬ nI 2 = (0 : Int32) by decide), if_neg (show ¬ nI 2 = (1 : Int32) by decide), if_pos (show nI 2 = (2 : Int32) by decide), p_sizeOf hS.1 hS.2.1 h1, ob1_some, if_neg (show ¬ nI 2 = (3 : Int32) by decide), if_neg (show ¬ nI 2 = (4 : Int32) by decide), g, ob1_some]
        exact ⟨_, _, _, _, _, _, _, _, _, _, _, _, _, _, _, _, _, _, _, _, _, _, _, _, _, _, _, _, _, _, _, _, _, _, rfl, rfl, h, OU_v⟩
      · rw [if_neg (show ¬ nI 3 = (0 : Int32) by decide), if_neg (show ¬ nI 3 = (1 : Int32) by decide), if_neg (show ¬ nI 3 = (2 : Int32) by decide), if_pos (show nI 3 = (3 : Int32) by decide), if_pos (show nI 3 = (3 : Int32) by decide), p_startOf hS.1 hS.2.1 (Nat.le_of_lt h1), ob1_some, q_spoken hS.1 hM (Nat.le_of_lt h1), ob1_some]
        exact ⟨_, _, _, _, _, _, _, _, _, _, _, _, _, _, _, _, _, _, _, _, _, _, _, _, _, _, _, _, _, _, _, _, _, _, rfl, rfl, h, OU_v⟩
      · obtain ⟨stl', cc', bw', dn', lea', mos', chg', fir', cat', wrt', cuc', las', sta', lef', rig', bc', bcn', pl', cos', tim', cut', spd', cnt', f1, f2, f3⟩ := p_refresh hS.1 hS.2.1 hS.2.2.1 hS.2.2.2.2 hC (wrt := wrt) (cuc := cuc) (las := las) (lef := lef) (rig := rig) (cos := cos) (cut := cut)
        obtain ⟨W', C', E', G', Y', qco', qpl', qcu', r1, r2⟩ := q_realTime (W := W) (C := C) (E := E) (G := G) (cos := qco) (pl := qpl) (Y := Y) (cut0 := qcu) hS.1 hM (s := s) (Nat.le_of_lt h1)
        rw [if_neg (show ¬ nI 4 = (0 : Int32) by decide), if_neg (show ¬ nI 4 = (1 : Int32) by decide), if_neg (show ¬ nI 4 = (2 : Int32) by decide), if_neg (show ¬ nI 4 = (3 : Int32) by decide), if_pos (show nI 4 = (4 : Int32) by decide), ob23_s f1, p_realTime hS.1 hS.2.1 hS.2.2.1 f3.2.1.2 (Nat.le_of_lt h1), ob1_some, if_neg (show ¬ nI 4 = (3 : Int32) by decide), if_pos (show nI 4 = (4 : Int32) by decide), ob9_s r1]
        exact ⟨_, _, _, _, _, _, _, _, _, _, _, _, _, _, _, _, _, _, _, _, _, _, _, _, _, _, _, _, _, _, _, _, _, _, rfl, rfl, ⟨A, H, m, T, b, L, hS, Or.inr ⟨f2, f3⟩, hH, hB, hP, hM, hK, hB2, hE, hW, rfl, rfl⟩, OU_v⟩
    · have hno : ∀ k : Nat, k ≤ 4 → ¬ x1 = nI k := by
        intro k hk e
        subst e
        have : (nI k).toInt = k := nI_toInt (by omega)
        omega
      rw [if_neg (show ¬ x1 = (0 : Int32) from hno 0 (by omega)), if_neg (show ¬ x1 = (1 : Int32) from hno 1 (by omega)), if_neg (show ¬ x1 = (2 : Int32) from hno 2 (by omega)), if_neg (show ¬ x1 = (3 : Int32) from hno 3 (by omega)), if_neg (show ¬ x1 = (4 : Int32) from hno 4 (by omega)), bI_0 c, if_pos z00, if_neg (show ¬ (2 : Int32) ≤ 0 by decide)]
      exact ⟨_, _, _, _, _, _, _, _, _, _, _, _, _, _, _, _, _, _, _, _, _, _, _, _, _, _, _, _, _, _, _, _, _, _, rfl, rfl, h, OU_2⟩
  · rw [h2, ob1_some, xoq_l, bI_0 h1, if_pos z00, if_neg l10]
    exact ⟨_, _, _, _, _, _, _, _, _, _, _, _, _, _, _, _, _, _, _, _, _, _, _, _, _, _, _, _, _, _, _, _, _, _, rfl, rfl, h, OU_1⟩
end
