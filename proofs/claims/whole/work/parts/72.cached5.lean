section
variable {A : Nat → Nat} {sc : Int32} {wc : Int32} {ord : Nat → Int32} {dur : Nat → Int32} {pau : Nat → Int32} {siz : Nat → Int32} {wor : Nat → Int32} {nam : Nat → Int64} {ns : Int32} {wi : Nat → Int32} {le : Nat → Int32} {re : Nat → Int32} {ex : Int32} {kn : Int32} {kt : Int32} {kr : Nat → Int32} {ks : Nat → Int32} {kd : Nat → Int32} {set : Nat → Int32} {stl : Int32} {cc : Int32} {bw : Int32} {dn : Int32} {lea : Int32} {mos : Int32} {chg : Nat → Int32} {fir : Nat → Int32} {cat : Nat → Int32} {sta : Nat → Int32} {bc : Int32} {bcn : Int32} {pl : Nat → Int32} {tim : Nat → Int32} {spd : Nat → Int32} {cnt : Nat → Int32} {hsz : Int32} {hol : Int32} {HI : Nat → gq_SH} {bl : Int32} {text : Nat → Int32} {ea : Int32} {pn : Int32} {pb : Nat → Int32} {a : Nat → Int64} {km : Int32} {kp : Nat → Int64} {bn : Int32} {buf : Nat → Int32} {qe : Int32} {wn : Int32} {wb : Nat → Int32} {tc : Int32} {tl : Int32} {wrt : Nat → Int32} {cuc : Nat → Int32} {las : Nat → Int32} {lef : Nat → Int32} {rig : Nat → Int32} {cos : Nat → Int32} {cut : Nat → Int32} {th : Int32} {W : Nat → Int32} {C : Nat → Int32} {E : Nat → Int32} {G : Nat → Int32} {Y : Nat → Int64} {qco : Nat → Int32} {qpl : Nat → Int32} {qcu : Nat → Int32}
theorem c_likeness {x0 x1 : Int32} (h : REL sc wc ord dur pau siz wor nam ns wi le re ex kn kt kr ks kd set stl cc bw dn lea mos chg fir cat sta bc bcn pl tim spd cnt hsz hol HI bl text ea pn pb a km kp bn buf qe wn wb tc tl) : ∃ res r stl' cc' bw' dn' lea' mos' chg' fir' cat' wrt' cuc' las' sta' lef' rig' bc' bcn' pl' cos' tim' cut' spd' cnt' th' W' C' E' G' Y', F_X10_likeness x0 x1 stl sc ord dur pau siz wor ns wi re set cc bw dn lea mos chg fir cat wrt cuc las sta lef rig bc bcn pl cos tim cut spd cnt = some (res, stl', cc', bw', dn', lea', mos', chg', fir', cat', wrt', cuc', las', sta', lef', rig', bc', bcn', pl', cos', tim', cut', spd', cnt') ∧ F_X11_likeness x0 x1 th tc tl a W C E G Y = some (r, th', W', C', E', G', Y') ∧ REL sc wc ord dur pau siz wor nam ns wi le re ex kn kt kr ks kd set stl' cc' bw' dn' lea' mos' chg' fir' cat' sta' bc' bcn' pl' tim' spd' cnt' hsz hol HI bl text ea pn pb a km kp bn buf qe wn wb tc tl ∧ OU [(4,1), (3,2)] res th' r := by
  obtain ⟨A, H, m, T, b, L, hS, hC, hH, hB, hP, hM, hK, hB2, hE, hW, hc1, hc2⟩ := id h
  subst hc1; subst hc2
  obtain ⟨stl', cc', bw', dn', lea', mos', chg', fir', cat', wrt', cuc', las', sta', lef', rig', bc', bcn', pl', cos', tim', cut', spd', cnt', f1, f2, f3⟩ := p_reqDiv hS.1 hS.2.1 hS.2.2.1 hS.2.2.2.2 hC (wrt := wrt) (cuc := cuc) (las := las) (lef := lef) (rig := rig) (cos := cos) (cut := cut)
  obtain ⟨W', C', E', G', Y', q1, q2⟩ := q_noCh (W := W) (C := C) (E := E) (G := G) (Y := Y) hS.1 hM x0
  obtain ⟨W2', C2', E2', G2', Y2', q3, q4⟩ := q_noCh (W := W') (C := C') (E := E') (G := G') (Y := Y') hS.1 hM x1
  have hn := hS.1.n
  have hD := f3.1.2.2.2.2.2
  unfold DB at hD
  unfold F_X10_likeness F_X11_likeness F_X11_likeness_b25
  rw [ob24_s f1, q1, ob6_some]
  cases hx : tbl A 0 with
  | none =>
    rw [if_neg (show ¬ (none : Option (Int × Nat × Nat)).isSome = true from Bool.false_ne_true), xoq_l]
    have e : noc A x0 = nI 1 := by unfold noc; rw [hx]
    rw [e, if_neg n10, if_neg (show ¬ nI 1 ≤ (0 : Int32) by decide)]
    exact ⟨_, _, _, _, _, _, _, _, _, _, _, _, _, _, _, _, _, _, _, _, _, _, _, _, _, _, _, _, _, _, _, rfl, rfl, ⟨A, H, m, T, b, L, hS, Or.inr ⟨f2, f3⟩, hH, hB, hP, hM, hK, hB2, hE, hW, rfl, rfl⟩, OU_1⟩
  | some x =>
    rw [hx] at hD
    have hcht := tbl_cht hx
    have hK2 := hcht.K
    have hw : cc' = nI (x.2.1 + 1) := hD.1
    rw [if_pos (show (some x : Option (Int × Nat × Nat)).isSome = true from rfl), xoq_r]
    rcases r_Chap x0 hw (by omega) with ⟨c, h1, h2, h3⟩ | ⟨h1, h2⟩
    · subst h2
      have ht : (nI c).toInt = c := nI_toInt (by omega)
      have e : noc A (nI c) = nI 0 := noc_0 hx (by rw [ht]; omega)
      rw [e, h3, ob1_some, xoq_r, if_pos z00, q3, ob6_some]
      rcases r_Chap x1 hw (by omega) with ⟨d, k1, k2, k3⟩ | ⟨k1, k2⟩
      · subst k2
        have ht2 : (nI d).toInt = d := nI_toInt (by omega)
        have e2 : noc A (nI d) = nI 0 := noc_0 hx (by rw [ht2]; omega)
        have b1 := hcht.1 c (by omega)
        have b2 := hcht.1 d (by omega)
        have u1 := hcht.mono 1 c (by omega)
        have u2 := hcht.mono 1 d (by omega)
        have g0 := hcht.le (i := c + 1) (j := x.2.1 + 1) (by omega) (Nat.le_refl _)
        have g00 := hcht.le (i := d + 1) (j := x.2.1 + 1) (by omega) (Nat.le_refl _)
        have hz := hcht.2
        have w1 : en (tbl A) (bg (tbl A) c) < A 6 := by have := bg_s (tbl A) c; omega
        have w2 : en (tbl A) (bg (tbl A) d) < A 6 := by have := bg_s (tbl A) d; omega
        rw [e2, k3, ob1_some, xoq_r, p_chapterLikeness hS.1 hx f3.2.2.2.2 (by omega) (by omega), ob1_some, if_pos (show nI 0 ≤ (0 : Int32) by decide), q_beginOf hS.1 hx q4 (by omega), ob1_some, q_beginOf hS.1 hx q4 (by omega), ob1_some, gi_n (by omega) (by omega), gi_n (by omega) (by omega), nI_clamp (by omega), nI_clamp (by omega), q4.en hx (by omega), q4.en hx (by omega), q_likenessOf hS.1 hM b1.2.2 w1 (by have := b2.2.2; omega) w2, ob1_some]
        exact ⟨_, _, _, _, _, _, _, _, _, _, _, _, _, _, _, _, _, _, _, _, _, _, _, _, _, _, _, _, _, _, _, rfl, rfl, ⟨A, H, m, T, b, L, hS, Or.inr ⟨f2, f3⟩, hH, hB, hP, hM, hK, hB2, hE, hW, rfl, rfl⟩, OU_v⟩
      · have e2 : noc A x1 = nI 2 := noc_2 hx (by omega)
        rw [e2, k2, ob1_some, xoq_l, if_neg (show ¬ nI 2 ≤ (0 : Int32) by decide)]
        exact ⟨_, _, _, _, _, _, _, _, _, _, _, _, _, _, _, _, _, _, _, _, _, _, _, _, _, _, _, _, _, _, _, rfl, rfl, ⟨A, H, m, T, b, L, hS, Or.inr ⟨f2, f3⟩, hH, hB, hP, hM, hK, hB2, hE, hW, rfl, rfl⟩, OU_2⟩
    · have e : noc A x0 = nI 2 := noc_2 hx (by omega)
      rw [e, h2, ob1_some, xoq_l, if_neg (show ¬ nI 2 = (0 : Int32) by decide), if_neg (show ¬ nI 2 ≤ (0 : Int32) by decide)]
      exact ⟨_, _, _, _, _, _, _, _, _, _, _, _, _, _, _, _, _, _, _, _, _, _, _, _, _, _, _, _, _, _, _, rfl, rfl, ⟨A, H, m, T, b, L, hS, Or.inr ⟨f2, f3⟩, hH, hB, hP, hM, hK, hB2, hE, hW, rfl, rfl⟩, OU_2⟩
end
