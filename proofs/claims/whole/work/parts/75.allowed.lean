section
variable {A : Nat → Nat} {sc : Int32} {wc : Int32} {ord : Nat → Int32} {dur : Nat → Int32} {pau : Nat → Int32} {siz : Nat → Int32} {wor : Nat → Int32} {nam : Nat → Int64} {ns : Int32} {wi : Nat → Int32} {le : Nat → Int32} {re : Nat → Int32} {ex : Int32} {kn : Int32} {kt : Int32} {kr : Nat → Int32} {ks : Nat → Int32} {kd : Nat → Int32} {set : Nat → Int32} {stl : Int32} {cc : Int32} {bw : Int32} {dn : Int32} {lea : Int32} {mos : Int32} {chg : Nat → Int32} {fir : Nat → Int32} {cat : Nat → Int32} {sta : Nat → Int32} {bc : Int32} {bcn : Int32} {pl : Nat → Int32} {tim : Nat → Int32} {spd : Nat → Int32} {cnt : Nat → Int32} {hsz : Int32} {hol : Int32} {HI : Nat → gq_SH} {bl : Int32} {text : Nat → Int32} {ea : Int32} {pn : Int32} {pb : Nat → Int32} {a : Nat → Int64} {km : Int32} {kp : Nat → Int64} {bn : Int32} {buf : Nat → Int32} {qe : Int32} {wn : Int32} {wb : Nat → Int32} {tc : Int32} {tl : Int32} {wrt : Nat → Int32} {cuc : Nat → Int32} {las : Nat → Int32} {lef : Nat → Int32} {rig : Nat → Int32} {cos : Nat → Int32} {cut : Nat → Int32} {th : Int32} {W : Nat → Int32} {C : Nat → Int32} {E : Nat → Int32} {G : Nat → Int32} {Y : Nat → Int64} {qco : Nat → Int32} {qpl : Nat → Int32} {qcu : Nat → Int32}
theorem c_isAllowed {x0 : Int32} (h : REL sc wc ord dur pau siz wor nam ns wi le re ex kn kt kr ks kd set stl cc bw dn lea mos chg fir cat sta bc bcn pl tim spd cnt hsz hol HI bl text ea pn pb a km kp bn buf qe wn wb tc tl) : ∃ res r stl' cc' bw' dn' lea' mos' chg' fir' cat' wrt' cuc' las' sta' lef' rig' bc' bcn' pl' cos' tim' cut' spd' cnt' th', F_X10_isAllowed x0 stl sc ord dur pau siz wor ns wi re set cc bw dn lea mos chg fir cat wrt cuc las sta lef rig bc bcn pl cos tim cut spd cnt = some (res, stl', cc', bw', dn', lea', mos', chg', fir', cat', wrt', cuc', las', sta', lef', rig', bc', bcn', pl', cos', tim', cut', spd', cnt') ∧ F_X11_isAllowed x0 th tc tl a = some (r, th') ∧ REL sc wc ord dur pau siz wor nam ns wi le re ex kn kt kr ks kd set stl' cc' bw' dn' lea' mos' chg' fir' cat' sta' bc' bcn' pl' tim' spd' cnt' hsz hol HI bl text ea pn pb a km kp bn buf qe wn wb tc tl ∧ OU [(2,1)] res th' r := by
  obtain ⟨A, H, m, T, b, L, hS, hC, hH, hB, hP, hM, hK, hB2, hE, hW, hc1, hc2⟩ := id h
  subst hc1; subst hc2
  have hn := hS.1.n
  have hsc := hS.2.1.1
  unfold F_X10_isAllowed F_X11_isAllowed F_X11_isAllowed_b14
  rw [q_areCuts hS.1 hM, ob1_some]
  rcases r_Cuts x0 hsc hn with ⟨s, h1, h0, h2, h3⟩ | ⟨h1, h2⟩
  · subst h2
    have ht : (nI s).toInt = s := nI_toInt h0
    obtain ⟨stl', cc', bw', dn', lea', mos', chg', fir', cat', wrt', cuc', las', sta', lef', rig', bc', bcn', pl', cos', tim', cut', spd', cnt', f1, f2, f3⟩ := p_refresh hS.1 hS.2.1 hS.2.2.1 hS.2.2.2.2 hC (wrt := wrt) (cuc := cuc) (las := las) (lef := lef) (rig := rig) (cos := cos) (cut := cut)
    have g1 := p_allows hS.1 f3.1.2.2.2.2.1 (c := s) h0
    rw [← f3.1.1, ← f3.1.2.1, ← f3.1.2.2.1] at g1
    have g2 : wh (fun k q => S_X11_isAllowed_37 (nI s) (0 : Int32) (-nI 1) (-nI 1) a k q.1 q.2) wF ((0 : Int32), (0 : Int32)) = _ := q_allowedLoop hS.1 hM h0
    rw [bI_1 (show 0 ≤ (nI s).toInt ∧ (nI s).toInt < ((2 ^ (A 6 - 1) : Nat) : Int) by rw [ht]; omega), if_neg n10, h3, ob1_some, xoq_r, ob23_s f1, g1, ob1_some, if_neg (show ¬ (0 : Int32) < 0 by decide), q_many hM, ob1_some]
    by_cases c : A 6 = 0
    · rw [bI_0 (by omega), gb_0, if_pos (show nI (A 6) = (0 : Int32) by rw [c]; rfl)]
      exact ⟨_, _, _, _, _, _, _, _, _, _, _, _, _, _, _, _, _, _, _, _, _, _, _, _, _, _, rfl, rfl, ⟨A, H, m, T, b, L, hS, Or.inr ⟨f2, f3⟩, hH, hB, hP, hM, hK, hB2, hE, hW, rfl, rfl⟩, OU_v⟩
    · rw [if_neg (show ¬ nI (A 6) = (0 : Int32) from fun h9 => c ((nI_eq (b := 0) (by omega) (by omega)).mp h9)), g2]
      by_cases c2 : alB A s (A 6) = true
      · rw [bI_1 ⟨by omega, c2⟩, gb_1, if_pos c2]
        exact ⟨_, _, _, _, _, _, _, _, _, _, _, _, _, _, _, _, _, _, _, _, _, _, _, _, _, _, rfl, rfl, ⟨A, H, m, T, b, L, hS, Or.inr ⟨f2, f3⟩, hH, hB, hP, hM, hK, hB2, hE, hW, rfl, rfl⟩, OU_v⟩
      · rw [bI_0 (fun h9 => c2 h9.2), gb_0, if_neg c2]
        exact ⟨_, _, _, _, _, _, _, _, _, _, _, _, _, _, _, _, _, _, _, _, _, _, _, _, _, _, rfl, rfl, ⟨A, H, m, T, b, L, hS, Or.inr ⟨f2, f3⟩, hH, hB, hP, hM, hK, hB2, hE, hW, rfl, rfl⟩, OU_v⟩
  · rw [h2, ob1_some, xoq_l, bI_0 h1, if_pos z00, if_pos (show (0 : Int32) < 1 by decide)]
    exact ⟨_, _, _, _, _, _, _, _, _, _, _, _, _, _, _, _, _, _, _, _, _, _, _, _, _, _, rfl, rfl, h, OU_1⟩
end
