section
variable {A : Nat → Nat} {sc : Int32} {wc : Int32} {ord : Nat → Int32} {dur : Nat → Int32} {pau : Nat → Int32} {siz : Nat → Int32} {wor : Nat → Int32} {nam : Nat → Int64} {ns : Int32} {wi : Nat → Int32} {le : Nat → Int32} {re : Nat → Int32} {ex : Int32} {kn : Int32} {kt : Int32} {kr : Nat → Int32} {ks : Nat → Int32} {kd : Nat → Int32} {set : Nat → Int32} {stl : Int32} {cc : Int32} {bw : Int32} {dn : Int32} {lea : Int32} {mos : Int32} {chg : Nat → Int32} {fir : Nat → Int32} {cat : Nat → Int32} {sta : Nat → Int32} {bc : Int32} {bcn : Int32} {pl : Nat → Int32} {tim : Nat → Int32} {spd : Nat → Int32} {cnt : Nat → Int32} {hsz : Int32} {hol : Int32} {HI : Nat → gq_SH} {bl : Int32} {text : Nat → Int32} {ea : Int32} {pn : Int32} {pb : Nat → Int32} {a : Nat → Int64} {km : Int32} {kp : Nat → Int64} {bn : Int32} {buf : Nat → Int32} {qe : Int32} {wn : Int32} {wb : Nat → Int32} {tc : Int32} {tl : Int32} {wrt : Nat → Int32} {cuc : Nat → Int32} {las : Nat → Int32} {lef : Nat → Int32} {rig : Nat → Int32} {cos : Nat → Int32} {cut : Nat → Int32} {th : Int32} {W : Nat → Int32} {C : Nat → Int32} {E : Nat → Int32} {G : Nat → Int32} {Y : Nat → Int64} {qco : Nat → Int32} {qpl : Nat → Int32} {qcu : Nat → Int32} {dwy : Nat → Int64}
theorem c_title {x0 x1 : Int32} (h : REL sc wc ord dur pau siz wor nam ns wi le re ex kn kt kr ks kd set stl cc bw dn lea mos chg fir cat sta bc bcn pl tim spd cnt hsz hol HI bl text ea pn pb a km kp bn buf qe wn wb tc tl) : ∃ res r stl' cc' bw' dn' lea' mos' chg' fir' cat' wrt' cuc' las' sta' lef' rig' bc' bcn' pl' cos' tim' cut' spd' cnt' th' W' C' E' G' Y', F_X10_title x0 x1 stl sc ord dur pau siz wor ns wi re set cc bw dn lea mos chg fir cat wrt cuc las sta lef rig bc bcn pl cos tim cut spd cnt = some (res, stl', cc', bw', dn', lea', mos', chg', fir', cat', wrt', cuc', las', sta', lef', rig', bc', bcn', pl', cos', tim', cut', spd', cnt') ∧ F_X11_title x0 x1 th tc tl a W C E G Y = some (r, th', W', C', E', G', Y') ∧ REL sc wc ord dur pau siz wor nam ns wi le re ex kn kt kr ks kd set stl' cc' bw' dn' lea' mos' chg' fir' cat' sta' bc' bcn' pl' tim' spd' cnt' hsz hol HI bl text ea pn pb a km kp bn buf qe wn wb tc tl ∧ OU [(4,1), (3,2)] res th' r := by
  obtain ⟨A, H, m, T, b, L, hS, hC, hH, hB, hP, hM, hK, hB2, hE, hW, hc1, hc2⟩ := id h
  subst hc1; subst hc2
  obtain ⟨stl', cc', bw', dn', lea', mos', chg', fir', cat', wrt', cuc', las', sta', lef', rig', bc', bcn', pl', cos', tim', cut', spd', cnt', f1, f2, f3⟩ := p_reqDiv hS.1 hS.2.1 hS.2.2.1 hS.2.2.2.2 hC (wrt := wrt) (cuc := cuc) (las := las) (lef := lef) (rig := rig) (cos := cos) (cut := cut)
  obtain ⟨W', C', E', G', Y', q1, q2⟩ := q_noCh (W := W) (C := C) (E := E) (G := G) (Y := Y) hS.1 hM x0
  have hn := hS.1.n
  have hnw := hS.1.nw
  have hwc := hS.2.1.2.1
  have hD := f3.1.2.2.2.2.2
  unfold DB at hD
  unfold F_X10_title F_X11_title F_X11_title_b33 F_X10_title_b18
  rw [ob24_s f1, q1, ob6_some]
  cases hx : tbl A 0 with
  | none =>
    rw [if_neg (show ¬ (none : Option (Int × Nat × Nat)).isSome = true from Bool.false_ne_true), xoq_l]
    have e : noc A x0 = nI 1 := by unfold noc; rw [hx]
    rw [e]
    rw [if_neg n10, if_neg (show ¬ nI 1 ≤ (0 : Int32) by decide)]
    exact ⟨_, _, _, _, _, _, _, _, _, _, _, _, _, _, _, _, _, _, _, _, _, _, _, _, _, _, _, _, _, _, _, rfl, rfl, ⟨A, H, m, T, b, L, hS, Or.inr ⟨f2, f3⟩, hH, hB, hP, hM, hK, hB2, hE, hW, rfl, rfl⟩, OU_1⟩
  | some x =>
    rw [hx] at hD
    have hK2 := (tbl_cht hx).K
    have hw : cc' = nI (x.2.1 + 1) := hD.1
    rw [if_pos (show (some x : Option (Int × Nat × Nat)).isSome = true from rfl), xoq_r]
    rcases r_Chap x0 hw (by omega) with ⟨c, h1, h2, h3⟩ | ⟨h1, h2⟩
    · subst h2
      have ht : (nI c).toInt = c := nI_toInt (by omega)
      have e : noc A (nI c) = nI 0 := noc_0 hx (by rw [ht]; omega)
      rw [e, h3, ob1_some, xoq_r]
      have hi := q_isInN x1 (lo := 0) (hi := 2) (by omega) (by omega)
      rw [if_pos z00, show (0 : Int64) = lN 0 from rfl, show (2 : Int64) = lN 2 from rfl, hi, ob1_some]
      by_cases k0 : x1 < (0 : Int32)
      · have := (rq_lt x1).mp k0
        rw [if_pos k0, bI_0 (by omega), if_pos z00, if_neg (show ¬ (2 : Int32) ≤ (0 : Int32) by decide)]
        exact ⟨_, _, _, _, _, _, _, _, _, _, _, _, _, _, _, _, _, _, _, _, _, _, _, _, _, _, _, _, _, _, _, rfl, rfl, ⟨A, H, m, T, b, L, hS, Or.inr ⟨f2, f3⟩, hH, hB, hP, hM, hK, hB2, hE, hW, rfl, rfl⟩, OU_2⟩
      · have k9 : ¬ x1.toInt < 0 := fun h9 => k0 ((rq_lt x1).mpr h9)
        obtain ⟨k, k1, k2, k3⟩ := rq_at (x := x1) (by omega)
        subst k1
        have hk2 : (nI k).toInt = k := nI_toInt k3
        rw [if_neg k0]
        by_cases k4 : k < 3
        · rw [if_pos (show nI k < (3 : Int32) from nI_lt (b := 3) k4 (by omega)), p_titleWord hS.1 hx f3.2.2.2.2 (by omega) (by omega), ob1_some, bI_1 (by rw [hk2]; omega), if_neg n10, if_pos (show nI 0 ≤ (0 : Int32) by decide), q_titleWord hS.1 hM hx q2 (by omega) (by omega), ob1_some]
          exact ⟨_, _, _, _, _, _, _, _, _, _, _, _, _, _, _, _, _, _, _, _, _, _, _, _, _, _, _, _, _, _, _, rfl, rfl, ⟨A, H, m, T, b, L, hS, Or.inr ⟨f2, f3⟩, hH, hB, hP, hM, hK, hB2, hE, hW, rfl, rfl⟩, OU_v⟩
        · rw [if_neg (show ¬ nI k < (3 : Int32) from fun h9 => k4 ((nI_ltI (b := 3) k3 (by omega)).mp h9)), bI_0 (by rw [hk2]; omega), if_pos z00, if_neg (show ¬ (2 : Int32) ≤ (0 : Int32) by decide)]
          exact ⟨_, _, _, _, _, _, _, _, _, _, _, _, _, _, _, _, _, _, _, _, _, _, _, _, _, _, _, _, _, _, _, rfl, rfl, ⟨A, H, m, T, b, L, hS, Or.inr ⟨f2, f3⟩, hH, hB, hP, hM, hK, hB2, hE, hW, rfl, rfl⟩, OU_2⟩
    · have e : noc A x0 = nI 2 := noc_2 hx (by omega)
      rw [e, h2, ob1_some, xoq_l]
      rw [if_neg (show ¬ nI 2 = (0 : Int32) by decide), if_neg (show ¬ nI 2 ≤ (0 : Int32) by decide)]
      exact ⟨_, _, _, _, _, _, _, _, _, _, _, _, _, _, _, _, _, _, _, _, _, _, _, _, _, _, _, _, _, _, _, rfl, rfl, ⟨A, H, m, T, b, L, hS, Or.inr ⟨f2, f3⟩, hH, hB, hP, hM, hK, hB2, hE, hW, rfl, rfl⟩, OU_2⟩
theorem c_chaptersWith {x0 : Int32} (h : REL sc wc ord dur pau siz wor nam ns wi le re ex kn kt kr ks kd set stl cc bw dn lea mos chg fir cat sta bc bcn pl tim spd cnt hsz hol HI bl text ea pn pb a km kp bn buf qe wn wb tc tl) : ∃ res r stl' cc' bw' dn' lea' mos' chg' fir' cat' wrt' cuc' las' sta' lef' rig' bc' bcn' pl' cos' tim' cut' spd' cnt' th' W' C' E' G' Y', F_X10_chaptersWith x0 stl sc wc ord dur pau siz wor ns wi re set cc bw dn lea mos chg fir cat wrt cuc las sta lef rig bc bcn pl cos tim cut spd cnt = some (res, stl', cc', bw', dn', lea', mos', chg', fir', cat', wrt', cuc', las', sta', lef', rig', bc', bcn', pl', cos', tim', cut', spd', cnt') ∧ F_X11_chaptersWith x0 th tc tl a W C E G Y = some (r, th', W', C', E', G', Y') ∧ REL sc wc ord dur pau siz wor nam ns wi le re ex kn kt kr ks kd set stl' cc' bw' dn' lea' mos' chg' fir' cat' sta' bc' bcn' pl' tim' spd' cnt' hsz hol HI bl text ea pn pb a km kp bn buf qe wn wb tc tl ∧ OU [(4,1), (3,2)] res th' r := by
  obtain ⟨A, H, m, T, b, L, hS, hC, hH, hB, hP, hM, hK, hB2, hE, hW, hc1, hc2⟩ := id h
  subst hc1; subst hc2
  obtain ⟨stl', cc', bw', dn', lea', mos', chg', fir', cat', wrt', cuc', las', sta', lef', rig', bc', bcn', pl', cos', tim', cut', spd', cnt', f1, f2, f3⟩ := p_reqDiv hS.1 hS.2.1 hS.2.2.1 hS.2.2.2.2 hC (wrt := wrt) (cuc := cuc) (las := las) (lef := lef) (rig := rig) (cos := cos) (cut := cut)
  obtain ⟨W', C', E', G', Y', q1, q2, q3⟩ := q_best (W := W) (C := C) (L := E) (G := G) (Y := Y) hS.1 hM
  have hnw := hS.1.nw
  have hwc := hS.2.1.2.1
  unfold F_X10_chaptersWith F_X11_chaptersWith F_X11_chaptersWith_b25
  rw [ob24_s f1, q1, ob6_some]
  cases hx : tbl A 0 with
  | none =>
    rw [if_neg (show ¬ (none : Option (Int × Nat × Nat)).isSome = true from Bool.false_ne_true), xoq_l, bI_0 (show ¬ (none : Option (Int × Nat × Nat)).isSome = true from Bool.false_ne_true), if_pos z00, if_neg l10]
    exact ⟨_, _, _, _, _, _, _, _, _, _, _, _, _, _, _, _, _, _, _, _, _, _, _, _, _, _, _, _, _, _, _, rfl, rfl, ⟨A, H, m, T, b, L, hS, Or.inr ⟨f2, f3⟩, hH, hB, hP, hM, hK, hB2, hE, hW, rfl, rfl⟩, OU_1⟩
  | some x =>
    rw [if_pos (show (some x : Option (Int × Nat × Nat)).isSome = true from rfl), xoq_r, bI_1 (show (some x : Option (Int × Nat × Nat)).isSome = true from rfl), if_neg n10, q_isKnow hS.1 hM, ob1_some]
    rcases r_Word x0 hwc (by omega) with ⟨w, k1, k2, k3⟩ | ⟨k1, k2⟩
    · subst k2
      have hw2 : (nI w).toInt = w := nI_toInt (by omega)
      rw [k3, ob1_some, xoq_r, gi_n (by omega) (by omega), nI_clamp (by omega), (f3.2.2.2.2 x hx).1 w (by omega), bI_1 (by rw [hw2]; omega), if_neg n10, if_pos l00, q_chaptersOf hS.1 hM hx q2 (by omega), ob1_some]
      exact ⟨_, _, _, _, _, _, _, _, _, _, _, _, _, _, _, _, _, _, _, _, _, _, _, _, _, _, _, _, _, _, _, rfl, rfl, ⟨A, H, m, T, b, L, hS, Or.inr ⟨f2, f3⟩, hH, hB, hP, hM, hK, hB2, hE, hW, rfl, rfl⟩, OU_v⟩
    · rw [k2, ob1_some, xoq_l, bI_0 k1, if_pos z00, if_neg (show ¬ (2 : Int32) ≤ (0 : Int32) by decide)]
      exact ⟨_, _, _, _, _, _, _, _, _, _, _, _, _, _, _, _, _, _, _, _, _, _, _, _, _, _, _, _, _, _, _, rfl, rfl, ⟨A, H, m, T, b, L, hS, Or.inr ⟨f2, f3⟩, hH, hB, hP, hM, hK, hB2, hE, hW, rfl, rfl⟩, OU_2⟩
end
