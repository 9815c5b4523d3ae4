section
variable {A : Nat → Nat} {sc : Int32} {wc : Int32} {ord : Nat → Int32} {dur : Nat → Int32} {pau : Nat → Int32} {siz : Nat → Int32} {wor : Nat → Int32} {nam : Nat → Int64} {ns : Int32} {wi : Nat → Int32} {le : Nat → Int32} {re : Nat → Int32} {ex : Int32} {kn : Int32} {kt : Int32} {kr : Nat → Int32} {ks : Nat → Int32} {kd : Nat → Int32} {set : Nat → Int32} {stl : Int32} {cc : Int32} {bw : Int32} {dn : Int32} {lea : Int32} {mos : Int32} {chg : Nat → Int32} {fir : Nat → Int32} {cat : Nat → Int32} {sta : Nat → Int32} {bc : Int32} {bcn : Int32} {pl : Nat → Int32} {tim : Nat → Int32} {spd : Nat → Int32} {cnt : Nat → Int32} {hsz : Int32} {hol : Int32} {HI : Nat → gq_SH} {bl : Int32} {text : Nat → Int32} {ea : Int32} {pn : Int32} {pb : Nat → Int32} {a : Nat → Int64} {km : Int32} {kp : Nat → Int64} {bn : Int32} {buf : Nat → Int32} {qe : Int32} {wn : Int32} {wb : Nat → Int32} {tc : Int32} {tl : Int32} {wrt : Nat → Int32} {cuc : Nat → Int32} {las : Nat → Int32} {lef : Nat → Int32} {rig : Nat → Int32} {cos : Nat → Int32} {cut : Nat → Int32} {th : Int32} {W : Nat → Int32} {C : Nat → Int32} {E : Nat → Int32} {G : Nat → Int32} {Y : Nat → Int64} {qco : Nat → Int32} {qpl : Nat → Int32} {qcu : Nat → Int32}
theorem c_priceFor {x0 : Int32} (h : REL sc wc ord dur pau siz wor nam ns wi le re ex kn kt kr ks kd set stl cc bw dn lea mos chg fir cat sta bc bcn pl tim spd cnt hsz hol HI bl text ea pn pb a km kp bn buf qe wn wb tc tl) : ∃ res r stl' cc' bw' dn' lea' mos' chg' fir' cat' wrt' cuc' las' sta' lef' rig' bc' bcn' pl' cos' tim' cut' spd' cnt' th' a' W' C' E' G' Y', F_X10_priceFor x0 stl sc ord dur pau siz wor ns wi re set cc bw dn lea mos chg fir cat wrt cuc las sta lef rig bc bcn pl cos tim cut spd cnt = some (res, stl', cc', bw', dn', lea', mos', chg', fir', cat', wrt', cuc', las', sta', lef', rig', bc', bcn', pl', cos', tim', cut', spd', cnt') ∧ F_X11_priceFor x0 th tc tl a W C E G Y = some (r, th', a', W', C', E', G', Y') ∧ REL sc wc ord dur pau siz wor nam ns wi le re ex kn kt kr ks kd set stl' cc' bw' dn' lea' mos' chg' fir' cat' sta' bc' bcn' pl' tim' spd' cnt' hsz hol HI bl text ea pn pb a' km kp bn buf qe wn wb tc tl ∧ OU [(2,1), (4,2)] res th' r := by
  obtain ⟨A, H, m, T, b, L, hS, hC, hH, hB, hP, hM, hK, hB2, hE, hW, hc1, hc2⟩ := id h
  subst hc1; subst hc2
  have h3 := hS.1.s3
  have hj := q_isInN x0 (lo := 1) (hi := 32) (by omega) (by omega)
  unfold F_X10_priceFor F_X11_priceFor F_X11_priceFor_b18
  rw [show (1 : Int64) = lN 1 from rfl, show (32 : Int64) = lN 32 from rfl, hj, ob1_some]
  rcases p_rqRange x0 (lo := 1) (hi := 32) (by omega) (by omega) with ⟨v, g1, g2, g3, g4⟩ | ⟨g1, g2⟩
  · subst g3
    have hv : (nI v).toInt = v := nI_toInt (by omega)
    have g4 : F_X10_requireRange (nI v) (1 : Int32) (32 : Int32) = some (.inr ()) := g4
    obtain ⟨stl', cc', bw', dn', lea', mos', chg', fir', cat', wrt', cuc', las', sta', lef', rig', bc', bcn', pl', cos', tim', cut', spd', cnt', f1, f2, f3⟩ := p_refresh hS.1 hS.2.1 hS.2.2.1 hS.2.2.2.2 hC (wrt := wrt) (cuc := cuc) (las := las) (lef := lef) (rig := rig) (cos := cos) (cut := cut)
    obtain ⟨r1, wrt2, cuc2, las2, i1, i2⟩ := p_greatestPrice hS.1 f3.1.2.2.2.2.1 f3.1.2.2.2.1 (m := v) (W := wrt') (C := cuc') (L := las') ⟨g1, g2⟩
    rw [← f3.1.1, ← f3.1.2.1, ← f3.1.2.2.1] at i1
    obtain ⟨r2, a', W', C', E', G', Y', q1, q2, q3⟩ := q_priceLoop (m := v) (was := lN (A 3)) (th := (0 : Int32)) (W := W) (C := C) (L := E) (G := G) (Y := Y) hS.1 hM ⟨g1, g2⟩
    have e := gpr_one i2 q2
    subst e
    have q1 : wh (fun k q => S_X11_priceFor_50 (nI v) (lN (A 3)) (0 : Int32) (-nI 1) (-nI 1) k q.1 q.2.1 q.2.2.1 q.2.2.2.1 q.2.2.2.2.1 q.2.2.2.2.2.1 q.2.2.2.2.2.2) wF ((100 : Int32), vp_updL a 3 ((100 : Int32).toInt64), W, C, E, G, Y) = some (r1, a', W', C', E', G', Y') := q1
    rw [g4, ob1_some, xoq_r, ob23_s f1, i1, ob4_some, bI_1 (by rw [hv]; omega), if_neg n10, if_pos l00, show (3 : Int32) = nI 3 from rfl, gi_n (by omega) (by omega), gi_n (by omega) (by omega), nI_clamp (by omega), hM.at (by omega), ob7_s q1]
    unfold F_X11_priceFor_b89 F_X11_priceFor_b107
    rw [show (3 : Int32) = nI 3 from rfl, gi_n (by omega) (by omega), nI_clamp (by omega)]
    rcases (show (∃ p, r1 = nI p ∧ p ≤ 100) ∨ r1 = -nI 1 from by rcases i2 with ⟨z, -⟩ | ⟨p, z1, z2, -⟩; exact Or.inr z; exact Or.inl ⟨p, z2, z1⟩) with ⟨p, hp, hpl⟩ | hp
    · rw [if_neg (show ¬ r1 = (-1 : Int32) from fun h => by have h : nI p = -nI 1 := hp ▸ h; rw [mI_eqR (by omega)] at h; exact h), if_pos (show (0 : Int32) ≤ r1 by rw [hp]; exact nI_le (a := 0) (Nat.zero_le _) (by omega)), if_pos l00]
      exact ⟨_, _, _, _, _, _, _, _, _, _, _, _, _, _, _, _, _, _, _, _, _, _, _, _, _, _, _, _, _, _, _, _, rfl, rfl, ⟨A, H, m, T, b, L, hS, Or.inr ⟨f2, f3⟩, hH, hB, hP, q3.back, hK, hB2, hE, hW, rfl, rfl⟩, OU_v⟩
    · rw [if_pos (show r1 = (-1 : Int32) from hp), if_neg (show ¬ (0 : Int32) ≤ r1 by rw [hp]; decide), if_neg (show ¬ (2 : Int32) ≤ 0 by decide)]
      exact ⟨_, _, _, _, _, _, _, _, _, _, _, _, _, _, _, _, _, _, _, _, _, _, _, _, _, _, _, _, _, _, _, _, rfl, rfl, ⟨A, H, m, T, b, L, hS, Or.inr ⟨f2, f3⟩, hH, hB, hP, q3.back, hK, hB2, hE, hW, rfl, rfl⟩, OU_2⟩
  · have g2 : F_X10_requireRange x0 (1 : Int32) (32 : Int32) = some (.inl 2) := g2
    rw [g2, ob1_some, xoq_l, bI_0 g1, if_pos z00, if_neg l10]
    exact ⟨_, _, _, _, _, _, _, _, _, _, _, _, _, _, _, _, _, _, _, _, _, _, _, _, _, _, _, _, _, _, _, _, rfl, rfl, h, OU_1⟩
end
