/-! ===== the calls behind the caches, by both ===== -/
section
variable {A : Nat → Nat} {sc : Int32} {wc : Int32} {ord : Nat → Int32} {dur : Nat → Int32} {pau : Nat → Int32} {siz : Nat → Int32} {wor : Nat → Int32} {nam : Nat → Int64} {ns : Int32} {wi : Nat → Int32} {le : Nat → Int32} {re : Nat → Int32} {ex : Int32} {kn : Int32} {kt : Int32} {kr : Nat → Int32} {ks : Nat → Int32} {kd : Nat → Int32} {set : Nat → Int32} {stl : Int32} {cc : Int32} {bw : Int32} {dn : Int32} {lea : Int32} {mos : Int32} {chg : Nat → Int32} {fir : Nat → Int32} {cat : Nat → Int32} {sta : Nat → Int32} {bc : Int32} {bcn : Int32} {pl : Nat → Int32} {tim : Nat → Int32} {spd : Nat → Int32} {cnt : Nat → Int32} {hsz : Int32} {hol : Int32} {HI : Nat → gq_SH} {bl : Int32} {text : Nat → Int32} {ea : Int32} {pn : Int32} {pb : Nat → Int32} {a : Nat → Int64} {km : Int32} {kp : Nat → Int64} {bn : Int32} {buf : Nat → Int32} {qe : Int32} {wn : Int32} {wb : Nat → Int32} {tc : Int32} {tl : Int32} {wrt : Nat → Int32} {cuc : Nat → Int32} {las : Nat → Int32} {lef : Nat → Int32} {rig : Nat → Int32} {cos : Nat → Int32} {cut : Nat → Int32} {th : Int32} {W : Nat → Int32} {C : Nat → Int32} {E : Nat → Int32} {G : Nat → Int32} {Y : Nat → Int64} {qco : Nat → Int32} {qpl : Nat → Int32} {qcu : Nat → Int32} {dwy : Nat → Int64}
theorem n10 : ¬ nI 1 = (0 : Int32) := by decide
theorem z00 : nI 0 = (0 : Int32) := rfl
theorem l10 : ¬ (1 : Int32) ≤ 0 := by decide
theorem l00 : (0 : Int32) ≤ 0 := by decide
theorem c_worth (h : REL sc wc ord dur pau siz wor nam ns wi le re ex kn kt kr ks kd set stl cc bw dn lea mos chg fir cat sta bc bcn pl tim spd cnt hsz hol HI bl text ea pn pb a km kp bn buf qe wn wb tc tl) : ∃ res r stl' cc' bw' dn' lea' mos' chg' fir' cat' wrt' cuc' las' sta' lef' rig' bc' bcn' pl' cos' tim' cut' spd' cnt' th' W' C' E' G' Y', F_X10_worth stl sc ord dur pau siz wor ns wi re set cc bw dn lea mos chg fir cat wrt cuc las sta lef rig bc bcn pl cos tim cut spd cnt = some (res, stl', cc', bw', dn', lea', mos', chg', fir', cat', wrt', cuc', las', sta', lef', rig', bc', bcn', pl', cos', tim', cut', spd', cnt') ∧ F_X11_worth th tc tl a W C E G Y = some (r, th', W', C', E', G', Y') ∧ REL sc wc ord dur pau siz wor nam ns wi le re ex kn kt kr ks kd set stl' cc' bw' dn' lea' mos' chg' fir' cat' sta' bc' bcn' pl' tim' spd' cnt' hsz hol HI bl text ea pn pb a km kp bn buf qe wn wb tc tl ∧ OU [(4,1)] res th' r := by
  obtain ⟨A, H, m, T, b, L, hS, hC, hH, hB, hP, hM, hK, hB2, hE, hW, hc1, hc2⟩ := id h
  subst hc1; subst hc2
  obtain ⟨stl', cc', bw', dn', lea', mos', chg', fir', cat', wrt', cuc', las', sta', lef', rig', bc', bcn', pl', cos', tim', cut', spd', cnt', f1, f2, f3⟩ := p_reqDiv hS.1 hS.2.1 hS.2.2.1 hS.2.2.2.2 hC (wrt := wrt) (cuc := cuc) (las := las) (lef := lef) (rig := rig) (cos := cos) (cut := cut)
  obtain ⟨W', C', E', G', Y', q1, q2, q3⟩ := q_best (W := W) (C := C) (L := E) (G := G) (Y := Y) hS.1 hM
  have hD := f3.1.2.2.2.2.2
  unfold DB at hD
  unfold F_X10_worth F_X11_worth F_X11_worth_b13
  rw [ob24_s f1, q1, ob6_some]
  cases hx : tbl A 0 with
  | none =>
    rw [if_neg (show ¬ (none : Option (Int × Nat × Nat)).isSome = true from Bool.false_ne_true), xoq_l, bI_0 (show ¬ (none : Option (Int × Nat × Nat)).isSome = true from Bool.false_ne_true), if_pos z00, if_neg l10]
    exact ⟨_, _, _, _, _, _, _, _, _, _, _, _, _, _, _, _, _, _, _, _, _, _, _, _, _, _, _, _, _, _, _, rfl, rfl, ⟨A, H, m, T, b, L, hS, Or.inr ⟨f2, f3⟩, hH, hB, hP, hM, hK, hB2, hE, hW, rfl, rfl⟩, OU_1⟩
  | some x =>
    rw [hx] at hD
    have hz : W' (0 : Int32).toNatClampNeg = iI x.1 := (q2.z hx).1
    have hw : bw' = iI x.1 := hD.2.1
    rw [if_pos (show (some x : Option (Int × Nat × Nat)).isSome = true from rfl), xoq_r, bI_1 (show (some x : Option (Int × Nat × Nat)).isSome = true from rfl), if_neg n10, if_pos l00, gi_z (by omega) (by omega), hz, ← hw]
    exact ⟨_, _, _, _, _, _, _, _, _, _, _, _, _, _, _, _, _, _, _, _, _, _, _, _, _, _, _, _, _, _, _, rfl, rfl, ⟨A, H, m, T, b, L, hS, Or.inr ⟨f2, f3⟩, hH, hB, hP, hM, hK, hB2, hE, hW, rfl, rfl⟩, OU_v⟩
theorem c_chapters (h : REL sc wc ord dur pau siz wor nam ns wi le re ex kn kt kr ks kd set stl cc bw dn lea mos chg fir cat sta bc bcn pl tim spd cnt hsz hol HI bl text ea pn pb a km kp bn buf qe wn wb tc tl) : ∃ res r stl' cc' bw' dn' lea' mos' chg' fir' cat' wrt' cuc' las' sta' lef' rig' bc' bcn' pl' cos' tim' cut' spd' cnt' th' W' C' E' G' Y', F_X10_chapters stl sc ord dur pau siz wor ns wi re set cc bw dn lea mos chg fir cat wrt cuc las sta lef rig bc bcn pl cos tim cut spd cnt = some (res, stl', cc', bw', dn', lea', mos', chg', fir', cat', wrt', cuc', las', sta', lef', rig', bc', bcn', pl', cos', tim', cut', spd', cnt') ∧ F_X11_chapters th tc tl a W C E G Y = some (r, th', W', C', E', G', Y') ∧ REL sc wc ord dur pau siz wor nam ns wi le re ex kn kt kr ks kd set stl' cc' bw' dn' lea' mos' chg' fir' cat' sta' bc' bcn' pl' tim' spd' cnt' hsz hol HI bl text ea pn pb a km kp bn buf qe wn wb tc tl ∧ th' = nI 0 ∧ r = res := by
  obtain ⟨A, H, m, T, b, L, hS, hC, hH, hB, hP, hM, hK, hB2, hE, hW, hc1, hc2⟩ := id h
  subst hc1; subst hc2
  obtain ⟨stl', cc', bw', dn', lea', mos', chg', fir', cat', wrt', cuc', las', sta', lef', rig', bc', bcn', pl', cos', tim', cut', spd', cnt', f1, f2, f3⟩ := p_refresh hS.1 hS.2.1 hS.2.2.1 hS.2.2.2.2 hC (wrt := wrt) (cuc := cuc) (las := las) (lef := lef) (rig := rig) (cos := cos) (cut := cut)
  obtain ⟨W', C', E', G', Y', q1, q2, q3⟩ := q_best (W := W) (C := C) (L := E) (G := G) (Y := Y) hS.1 hM
  have hn := hS.1.n
  have hD := f3.1.2.2.2.2.2
  unfold DB at hD
  unfold F_X10_chapters F_X11_chapters
  rw [ob23_s f1, q1, ob6_some]
  cases hx : tbl A 0 with
  | none =>
    rw [hx] at hD
    have hD : cc' = nI 0 := hD
    rw [if_pos (show cc' ≤ (0 : Int32) by rw [hD]; decide), bI_0 (show ¬ (none : Option (Int × Nat × Nat)).isSome = true from Bool.false_ne_true), if_pos z00]
    exact ⟨_, _, _, _, _, _, _, _, _, _, _, _, _, _, _, _, _, _, _, _, _, _, _, _, _, _, _, _, _, _, _, rfl, rfl, ⟨A, H, m, T, b, L, hS, Or.inr ⟨f2, f3⟩, hH, hB, hP, hM, hK, hB2, hE, hW, rfl, rfl⟩, rfl, rfl⟩
  | some x =>
    rw [hx] at hD
    have hK2 := (tbl_cht hx).K
    have hz : C' (0 : Int32).toNatClampNeg = nI x.2.1 := (q2.z hx).2.1
    have hw : cc' = nI (x.2.1 + 1) := hD.1
    have e : (1 : Int32) + nI x.2.1 = nI (x.2.1 + 1) := by rw [show (1 : Int32) = nI 1 from rfl, nI_add, Nat.add_comm]
    rw [if_neg (show ¬ cc' ≤ (0 : Int32) by rw [hw]; exact fun h9 => by have := (nI_leI (b := 0) (by omega) (by omega)).mp h9; omega), bI_1 (show (some x : Option (Int × Nat × Nat)).isSome = true from rfl), if_neg n10, gi_z (by omega) (by omega), hz, e, ← hw]
    exact ⟨_, _, _, _, _, _, _, _, _, _, _, _, _, _, _, _, _, _, _, _, _, _, _, _, _, _, _, _, _, _, _, rfl, rfl, ⟨A, H, m, T, b, L, hS, Or.inr ⟨f2, f3⟩, hH, hB, hP, hM, hK, hB2, hE, hW, rfl, rfl⟩, rfl, rfl⟩
theorem c_chapterOf {x0 : Int32} (h : REL sc wc ord dur pau siz wor nam ns wi le re ex kn kt kr ks kd set stl cc bw dn lea mos chg fir cat sta bc bcn pl tim spd cnt hsz hol HI bl text ea pn pb a km kp bn buf qe wn wb tc tl) : ∃ res r stl' cc' bw' dn' lea' mos' chg' fir' cat' wrt' cuc' las' sta' lef' rig' bc' bcn' pl' cos' tim' cut' spd' cnt' th' W' C' E' G' Y', F_X10_chapterOf x0 stl sc ord dur pau siz wor ns wi re set cc bw dn lea mos chg fir cat wrt cuc las sta lef rig bc bcn pl cos tim cut spd cnt = some (res, stl', cc', bw', dn', lea', mos', chg', fir', cat', wrt', cuc', las', sta', lef', rig', bc', bcn', pl', cos', tim', cut', spd', cnt') ∧ F_X11_chapterOf x0 th tc tl a W C E G Y = some (r, th', W', C', E', G', Y') ∧ REL sc wc ord dur pau siz wor nam ns wi le re ex kn kt kr ks kd set stl' cc' bw' dn' lea' mos' chg' fir' cat' sta' bc' bcn' pl' tim' spd' cnt' hsz hol HI bl text ea pn pb a km kp bn buf qe wn wb tc tl ∧ OU [(3,1)] res th' r := by
  obtain ⟨A, H, m, T, b, L, hS, hC, hH, hB, hP, hM, hK, hB2, hE, hW, hc1, hc2⟩ := id h
  subst hc1; subst hc2
  have hn := hS.1.n
  have hsc := hS.2.1.1
  unfold F_X10_chapterOf F_X11_chapterOf F_X11_chapterOf_b14
  rw [q_isSegm hS.1 hM, ob1_some]
  rcases r_Seg x0 hsc (by omega) with ⟨s, h1, h2, h3⟩ | ⟨h1, h2⟩
  · subst h2
    have ht : (nI s).toInt = s := nI_toInt (by omega)
    obtain ⟨stl', cc', bw', dn', lea', mos', chg', fir', cat', wrt', cuc', las', sta', lef', rig', bc', bcn', pl', cos', tim', cut', spd', cnt', f1, f2, f3⟩ := p_refresh hS.1 hS.2.1 hS.2.2.1 hS.2.2.2.2 hC (wrt := wrt) (cuc := cuc) (las := las) (lef := lef) (rig := rig) (cos := cos) (cut := cut)
    obtain ⟨W', C', E', G', Y', q1, q2, q3⟩ := q_best (W := W) (C := C) (L := E) (G := G) (Y := Y) hS.1 hM
    have hD := f3.1.2.2.2.2.2
    unfold DB at hD
    rw [h3, ob1_some, xoq_r, ob23_s f1, bI_1 (by rw [ht]; omega), if_neg n10, if_pos l00, q1, ob6_some]
    cases hx : tbl A 0 with
    | none =>
      rw [hx] at hD
      have hD : cc' = nI 0 := hD
      rw [if_pos (show cc' ≤ (0 : Int32) by rw [hD]; decide), bI_0 (show ¬ (none : Option (Int × Nat × Nat)).isSome = true from Bool.false_ne_true), if_pos z00]
      exact ⟨_, _, _, _, _, _, _, _, _, _, _, _, _, _, _, _, _, _, _, _, _, _, _, _, _, _, _, _, _, _, _, rfl, rfl, ⟨A, H, m, T, b, L, hS, Or.inr ⟨f2, f3⟩, hH, hB, hP, hM, hK, hB2, hE, hW, rfl, rfl⟩, OU_v⟩
    | some x =>
      rw [hx] at hD
      have hK2 := (tbl_cht hx).K
      obtain ⟨k, k1, k2, k3⟩ := (tbl_cht hx).ex h1
      have hca := hD.2.2.2 s k k1 k2 k3
      have hq := q_chapterAt hS.1 hx q2 k1 k2 k3
      have hw : cc' = nI (x.2.1 + 1) := hD.1
      rw [if_neg (show ¬ cc' ≤ (0 : Int32) by rw [hw]; exact fun h9 => by have := (nI_leI (b := 0) (by omega) (by omega)).mp h9; omega), bI_1 (show (some x : Option (Int × Nat × Nat)).isSome = true from rfl), if_neg n10, gi_n (by omega) (by omega), nI_clamp (by omega), hca, hq, ob1_some]
      exact ⟨_, _, _, _, _, _, _, _, _, _, _, _, _, _, _, _, _, _, _, _, _, _, _, _, _, _, _, _, _, _, _, rfl, rfl, ⟨A, H, m, T, b, L, hS, Or.inr ⟨f2, f3⟩, hH, hB, hP, hM, hK, hB2, hE, hW, rfl, rfl⟩, OU_v⟩
  · rw [h2, ob1_some, xoq_l, bI_0 h1, if_pos z00, if_neg l10]
    exact ⟨_, _, _, _, _, _, _, _, _, _, _, _, _, _, _, _, _, _, _, _, _, _, _, _, _, _, _, _, _, _, _, rfl, rfl, h, OU_1⟩
end
