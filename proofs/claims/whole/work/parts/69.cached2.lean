section
variable {A : Nat → Nat} {sc : Int32} {wc : Int32} {ord : Nat → Int32} {dur : Nat → Int32} {pau : Nat → Int32} {siz : Nat → Int32} {wor : Nat → Int32} {nam : Nat → Int64} {ns : Int32} {wi : Nat → Int32} {le : Nat → Int32} {re : Nat → Int32} {ex : Int32} {kn : Int32} {kt : Int32} {kr : Nat → Int32} {ks : Nat → Int32} {kd : Nat → Int32} {set : Nat → Int32} {stl : Int32} {cc : Int32} {bw : Int32} {dn : Int32} {lea : Int32} {mos : Int32} {chg : Nat → Int32} {fir : Nat → Int32} {cat : Nat → Int32} {sta : Nat → Int32} {bc : Int32} {bcn : Int32} {pl : Nat → Int32} {tim : Nat → Int32} {spd : Nat → Int32} {cnt : Nat → Int32} {hsz : Int32} {hol : Int32} {HI : Nat → gq_SH} {bl : Int32} {text : Nat → Int32} {ea : Int32} {pn : Int32} {pb : Nat → Int32} {a : Nat → Int64} {km : Int32} {kp : Nat → Int64} {bn : Int32} {buf : Nat → Int32} {qe : Int32} {wn : Int32} {wb : Nat → Int32} {tc : Int32} {tl : Int32} {wrt : Nat → Int32} {cuc : Nat → Int32} {las : Nat → Int32} {lef : Nat → Int32} {rig : Nat → Int32} {cos : Nat → Int32} {cut : Nat → Int32} {th : Int32} {W : Nat → Int32} {C : Nat → Int32} {E : Nat → Int32} {G : Nat → Int32} {Y : Nat → Int64} {qco : Nat → Int32} {qpl : Nat → Int32} {qcu : Nat → Int32} {dwy : Nat → Int64}
theorem c_divisions (h : REL sc wc ord dur pau siz wor nam ns wi le re ex kn kt kr ks kd set stl cc bw dn lea mos chg fir cat sta bc bcn pl tim spd cnt hsz hol HI bl text ea pn pb a km kp bn buf qe wn wb tc tl) : ∃ res r stl' cc' bw' dn' lea' mos' chg' fir' cat' wrt' cuc' las' sta' dwy' lef' rig' bc' bcn' pl' cos' tim' cut' spd' cnt' th' W' C' E' G' Y', F_X10_divisions stl sc ord dur pau siz wor ns wi re set cc bw dn lea mos chg fir cat wrt cuc las sta dwy lef rig bc bcn pl cos tim cut spd cnt = some (res, stl', cc', bw', dn', lea', mos', chg', fir', cat', wrt', cuc', las', sta', dwy', lef', rig', bc', bcn', pl', cos', tim', cut', spd', cnt') ∧ F_X11_divisions th tc tl a W C E G Y = some (r, th', W', C', E', G', Y') ∧ REL sc wc ord dur pau siz wor nam ns wi le re ex kn kt kr ks kd set stl' cc' bw' dn' lea' mos' chg' fir' cat' sta' bc' bcn' pl' tim' spd' cnt' hsz hol HI bl text ea pn pb a km kp bn buf qe wn wb tc tl ∧ th' = nI 0 ∧ r = res := by
  obtain ⟨A, H, m, T, b, L, hS, hC, hH, hB, hP, hM, hK, hB2, hE, hW, hc1, hc2⟩ := id h
  subst hc1; subst hc2
  obtain ⟨stl', cc', bw', dn', lea', mos', chg', fir', cat', wrt', cuc', las', sta', lef', rig', bc', bcn', pl', cos', tim', cut', spd', cnt', f1, f2, f3⟩ := p_refresh hS.1 hS.2.1 hS.2.2.1 hS.2.2.2.2 hC (wrt := wrt) (cuc := cuc) (las := las) (lef := lef) (rig := rig) (cos := cos) (cut := cut)
  have hn := hS.1.n
  obtain ⟨dwy', f4⟩ := p_countAllowed hS.1 f3.1.2.2.2.2.1 (Y := dwy)
  rw [← f3.1.1, ← f3.1.2.1, ← f3.1.2.2.1] at f4
  obtain ⟨W', C', E', G', Y', q1, q2⟩ := q_lays (w := 32) (b := 32) (W := W) (C := C) (L := E) (G := G) (Y := Y) hS.1 hM
  rw [rI_32] at q1
  unfold F_X10_divisions F_X11_divisions
  rw [ob23_s f1, f4, ob2_some, q1, ob5_some, q_many hM, ob1_some]
  by_cases c : A 6 = 0
  · have e : nwy A = lN 0 := by unfold nwy; exact if_pos c
    rw [if_pos (show nI (A 6) = (0 : Int32) by rw [c]; rfl), e]
    exact ⟨_, _, _, _, _, _, _, _, _, _, _, _, _, _, _, _, _, _, _, _, _, _, _, _, _, _, _, _, _, _, _, _, rfl, rfl, ⟨A, H, m, T, b, L, hS, Or.inr ⟨f2, f3⟩, hH, hB, hP, hM, hK, hB2, hE, hW, rfl, rfl⟩, rfl, rfl⟩
  · have e : Y' (0 : Int32).toNatClampNeg = nwy A := by
      have := (q2 0 (by omega)).2
      unfold nwy
      rw [if_neg c]
      exact this
    rw [if_neg (show ¬ nI (A 6) = (0 : Int32) from fun h9 => c ((nI_eq (b := 0) (by omega) (by omega)).mp h9)), gi_z (by omega) (by omega), e]
    exact ⟨_, _, _, _, _, _, _, _, _, _, _, _, _, _, _, _, _, _, _, _, _, _, _, _, _, _, _, _, _, _, _, _, rfl, rfl, ⟨A, H, m, T, b, L, hS, Or.inr ⟨f2, f3⟩, hH, hB, hP, hM, hK, hB2, hE, hW, rfl, rfl⟩, rfl, rfl⟩
theorem c_placementCost (h : REL sc wc ord dur pau siz wor nam ns wi le re ex kn kt kr ks kd set stl cc bw dn lea mos chg fir cat sta bc bcn pl tim spd cnt hsz hol HI bl text ea pn pb a km kp bn buf qe wn wb tc tl) : ∃ res r stl' cc' bw' dn' lea' mos' chg' fir' cat' wrt' cuc' las' sta' lef' rig' bc' bcn' pl' cos' tim' cut' spd' cnt' th' W' C' E' G' Y' qco' qpl' qcu', F_X10_placementCost stl sc ord dur pau siz wor ns wi re set cc bw dn lea mos chg fir cat wrt cuc las sta lef rig bc bcn pl cos tim cut spd cnt = some (res, stl', cc', bw', dn', lea', mos', chg', fir', cat', wrt', cuc', las', sta', lef', rig', bc', bcn', pl', cos', tim', cut', spd', cnt') ∧ F_X11_placementCost th tc tl a W C E G Y qco qpl qcu = some (r, th', W', C', E', G', Y', qco', qpl', qcu') ∧ REL sc wc ord dur pau siz wor nam ns wi le re ex kn kt kr ks kd set stl' cc' bw' dn' lea' mos' chg' fir' cat' sta' bc' bcn' pl' tim' spd' cnt' hsz hol HI bl text ea pn pb a km kp bn buf qe wn wb tc tl ∧ th' = nI 0 ∧ r = res := by
  obtain ⟨A, H, m, T, b, L, hS, hC, hH, hB, hP, hM, hK, hB2, hE, hW, hc1, hc2⟩ := id h
  subst hc1; subst hc2
  obtain ⟨stl', cc', bw', dn', lea', mos', chg', fir', cat', wrt', cuc', las', sta', lef', rig', bc', bcn', pl', cos', tim', cut', spd', cnt', f1, f2, f3⟩ := p_refresh hS.1 hS.2.1 hS.2.2.1 hS.2.2.2.2 hC (wrt := wrt) (cuc := cuc) (las := las) (lef := lef) (rig := rig) (cos := cos) (cut := cut)
  obtain ⟨W', C', E', G', Y', qco', qpl', qcu', q1, q2, q3⟩ := q_laysPlaces (W := W) (C := C) (E := E) (G := G) (Y := Y) (cos := qco) (pl := qpl) (cut0 := qcu) hS.1 hM
  unfold F_X10_placementCost F_X11_placementCost
  rw [ob23_s f1, ob9_s q1]
  exact ⟨_, _, _, _, _, _, _, _, _, _, _, _, _, _, _, _, _, _, _, _, _, _, _, _, _, _, _, _, _, _, _, _, _, _, rfl, rfl, ⟨A, H, m, T, b, L, hS, Or.inr ⟨f2, f3⟩, hH, hB, hP, hM, hK, hB2, hE, hW, rfl, rfl⟩, rfl, f3.2.1.1.symm⟩
theorem c_choices {x0 : Int32} (h : REL sc wc ord dur pau siz wor nam ns wi le re ex kn kt kr ks kd set stl cc bw dn lea mos chg fir cat sta bc bcn pl tim spd cnt hsz hol HI bl text ea pn pb a km kp bn buf qe wn wb tc tl) : ∃ res r stl' cc' bw' dn' lea' mos' chg' fir' cat' wrt' cuc' las' sta' lef' rig' bc' bcn' pl' cos' tim' cut' spd' cnt' th', F_X10_choices x0 stl sc ord dur pau siz wor ns wi re set cc bw dn lea mos chg fir cat wrt cuc las sta lef rig bc bcn pl cos tim cut spd cnt = some (res, stl', cc', bw', dn', lea', mos', chg', fir', cat', wrt', cuc', las', sta', lef', rig', bc', bcn', pl', cos', tim', cut', spd', cnt') ∧ F_X11_choices x0 th a = some (r, th') ∧ REL sc wc ord dur pau siz wor nam ns wi le re ex kn kt kr ks kd set stl' cc' bw' dn' lea' mos' chg' fir' cat' sta' bc' bcn' pl' tim' spd' cnt' hsz hol HI bl text ea pn pb a km kp bn buf qe wn wb tc tl ∧ OU [(3,1)] res th' r := by
  obtain ⟨A, H, m, T, b, L, hS, hC, hH, hB, hP, hM, hK, hB2, hE, hW, hc1, hc2⟩ := id h
  subst hc1; subst hc2
  have hn := hS.1.nl
  have hns := hS.2.2.1.1
  unfold F_X10_choices F_X11_choices F_X11_choices_b14
  rw [q_isSlt hS.1 hM, ob1_some]
  rcases r_Slot x0 hns (by omega) with ⟨s, h1, h2, h3⟩ | ⟨h1, h2⟩
  · subst h2
    have ht : (nI s).toInt = s := nI_toInt (by omega)
    obtain ⟨stl', cc', bw', dn', lea', mos', chg', fir', cat', wrt', cuc', las', sta', lef', rig', bc', bcn', pl', cos', tim', cut', spd', cnt', f1, f2, f3⟩ := p_refresh hS.1 hS.2.1 hS.2.2.1 hS.2.2.2.2 hC (wrt := wrt) (cuc := cuc) (las := las) (lef := lef) (rig := rig) (cos := cos) (cut := cut)
    have g1 := p_countChoices hS.1 hS.2.1 hS.2.2.2.2 hS.2.2.1 f3.2.2.2.1 h1
    rw [← f3.2.2.1] at g1
    have g2 := q_choicesLoop (th := (0 : Int32)) hS.1 hM h1
    have g2 : wh (fun k q => S_X11_choices_30 (nI s) (0 : Int32) a k q.1 q.2) wF ((0 : Int32), (0 : Int32)) = some (nI (chs A s (A 6 - 1))) := g2
    rw [h3, ob1_some, xoq_r, ob23_s f1, g1, ob1_some, bI_1 (by rw [ht]; omega), if_neg n10, if_pos l00, ob1_s g2]
    exact ⟨_, _, _, _, _, _, _, _, _, _, _, _, _, _, _, _, _, _, _, _, _, _, _, _, _, _, rfl, rfl, ⟨A, H, m, T, b, L, hS, Or.inr ⟨f2, f3⟩, hH, hB, hP, hM, hK, hB2, hE, hW, rfl, rfl⟩, OU_v⟩
  · rw [h2, ob1_some, xoq_l, bI_0 h1, if_pos z00, if_neg l10]
    exact ⟨_, _, _, _, _, _, _, _, _, _, _, _, _, _, _, _, _, _, _, _, _, _, _, _, _, _, rfl, rfl, h, OU_1⟩
theorem p_rqBnd (x : Int32) {n : Nat} {c : Int32} (hc : c = nI n) (h : n ≤ 32) : (∃ s, s + 1 < n ∧ x = nI s ∧ F_X10_requireBoundary x c = some (.inr ())) ∨ (¬ (0 ≤ x.toInt ∧ x.toInt + 1 < n) ∧ F_X10_requireBoundary x c = some (.inl 3)) := by
  subst hc
  unfold F_X10_requireBoundary
  rw [p_boundaryCount h, ob1_some]
  by_cases c : x < (0 : Int32)
  · rw [if_pos c]
    exact Or.inr ⟨fun h9 => by have := (rq_lt x).mp c; omega, rfl⟩
  · rw [if_neg c]
    have c0 : ¬ x.toInt < 0 := fun h9 => c ((rq_lt x).mpr h9)
    by_cases c2 : x < nI (n - 1)
    · rw [if_pos c2]
      obtain ⟨s, e1, e2, e3⟩ := rq_at (x := x) (by omega)
      have := (rq_ltn x (by omega)).mp c2
      exact Or.inl ⟨s, by omega, e1, rfl⟩
    · rw [if_neg c2]
      exact Or.inr ⟨fun h9 => c2 ((rq_ltn x (by omega)).mpr (by omega)), rfl⟩
theorem q_isBnd (hV : VA A) (hM : MR A a) (x : Int32) : F_X11_isBoundary x a = some (bI (0 ≤ x.toInt ∧ x.toInt + 1 < A 6)) := by
  have hn := hV.n
  have h1 := q_isInS x (n := A 6) (m := 2) (by omega) (by omega)
  unfold F_X11_isBoundary
  rw [q_many hM, ob1_some, show (0 : Int64) = lN 0 from rfl, show (2 : Int32) = nI 2 from rfl, h1, ob1_some]
  rw [show bI (0 ≤ x.toInt ∧ x.toInt ≤ (A 6 : Int) - (2 : Nat)) = bI (0 ≤ x.toInt ∧ x.toInt + 1 < A 6) from bI_c (by omega)]
  by_cases c : 0 ≤ x.toInt ∧ x.toInt + 1 < A 6
  · rw [bI_1 c, gb_1]
  · rw [bI_0 c, gb_0]
theorem c_change {x0 : Int32} (h : REL sc wc ord dur pau siz wor nam ns wi le re ex kn kt kr ks kd set stl cc bw dn lea mos chg fir cat sta bc bcn pl tim spd cnt hsz hol HI bl text ea pn pb a km kp bn buf qe wn wb tc tl) : ∃ res r stl' cc' bw' dn' lea' mos' chg' fir' cat' wrt' cuc' las' sta' lef' rig' bc' bcn' pl' cos' tim' cut' spd' cnt' th', F_X10_change x0 stl sc ord dur pau siz wor ns wi re set cc bw dn lea mos chg fir cat wrt cuc las sta lef rig bc bcn pl cos tim cut spd cnt = some (res, stl', cc', bw', dn', lea', mos', chg', fir', cat', wrt', cuc', las', sta', lef', rig', bc', bcn', pl', cos', tim', cut', spd', cnt') ∧ F_X11_change x0 th a = some (r, th') ∧ REL sc wc ord dur pau siz wor nam ns wi le re ex kn kt kr ks kd set stl' cc' bw' dn' lea' mos' chg' fir' cat' sta' bc' bcn' pl' tim' spd' cnt' hsz hol HI bl text ea pn pb a km kp bn buf qe wn wb tc tl ∧ OU [(3,1)] res th' r := by
  obtain ⟨A, H, m, T, b, L, hS, hC, hH, hB, hP, hM, hK, hB2, hE, hW, hc1, hc2⟩ := id h
  subst hc1; subst hc2
  have hn := hS.1.n
  have hsc := hS.2.1.1
  unfold F_X10_change F_X11_change F_X11_change_b14
  rw [q_isBnd hS.1 hM, ob1_some]
  rcases p_rqBnd x0 hsc hn with ⟨s, h1, h2, h3⟩ | ⟨h1, h2⟩
  · subst h2
    have ht : (nI s).toInt = s := nI_toInt (by omega)
    obtain ⟨stl', cc', bw', dn', lea', mos', chg', fir', cat', wrt', cuc', las', sta', lef', rig', bc', bcn', pl', cos', tim', cut', spd', cnt', f1, f2, f3⟩ := p_refresh hS.1 hS.2.1 hS.2.2.1 hS.2.2.2.2 hC (wrt := wrt) (cuc := cuc) (las := las) (lef := lef) (rig := rig) (cos := cos) (cut := cut)
    have g1 := f3.1.2.2.2.1 s h1
    rw [h3, ob1_some, xoq_r, ob23_s f1, gi_n (by omega) (by omega), nI_clamp (by omega), g1, bI_1 (by rw [ht]; omega), if_neg n10, if_pos l00, q_changeOf hS.1 hM h1, ob1_some]
    exact ⟨_, _, _, _, _, _, _, _, _, _, _, _, _, _, _, _, _, _, _, _, _, _, _, _, _, _, rfl, rfl, ⟨A, H, m, T, b, L, hS, Or.inr ⟨f2, f3⟩, hH, hB, hP, hM, hK, hB2, hE, hW, rfl, rfl⟩, OU_v⟩
  · rw [h2, ob1_some, xoq_l, bI_0 h1, if_pos z00, if_neg l10]
    exact ⟨_, _, _, _, _, _, _, _, _, _, _, _, _, _, _, _, _, _, _, _, _, _, _, _, _, _, rfl, rfl, h, OU_1⟩
theorem c_writeChapters (h : REL sc wc ord dur pau siz wor nam ns wi le re ex kn kt kr ks kd set stl cc bw dn lea mos chg fir cat sta bc bcn pl tim spd cnt hsz hol HI bl text ea pn pb a km kp bn buf qe wn wb tc tl) : ∃ res r stl' cc' bw' dn' lea' mos' chg' fir' cat' wrt' cuc' las' sta' lef' rig' bc' bcn' pl' cos' tim' cut' spd' cnt' pn' pb' th' wn' W' C' E' G' Y' qco' qpl' qcu' wb', F_X10_writeChapters stl sc ord dur pau siz wor nam ns wi le re set cc bw dn lea mos chg fir cat wrt cuc las sta lef rig bc bcn pl cos tim cut spd cnt pn pb = some (res, stl', cc', bw', dn', lea', mos', chg', fir', cat', wrt', cuc', las', sta', lef', rig', bc', bcn', pl', cos', tim', cut', spd', cnt', pn', pb') ∧ F_X11_writeChapters th tc tl wn a W C E G Y qco qpl qcu wb = some (r, th', wn', W', C', E', G', Y', qco', qpl', qcu', wb') ∧ REL sc wc ord dur pau siz wor nam ns wi le re ex kn kt kr ks kd set stl' cc' bw' dn' lea' mos' chg' fir' cat' sta' bc' bcn' pl' tim' spd' cnt' hsz hol HI bl text ea pn' pb' a km kp bn buf qe wn' wb' tc tl ∧ OU [(4,1)] res th' r := by
  obtain ⟨A, H, m, T, b, L, hS, hC, hH, hB, hP, hM, hK, hB2, hE, hW, hc1, hc2⟩ := id h
  subst hc1; subst hc2
  obtain ⟨stl', cc', bw', dn', lea', mos', chg', fir', cat', wrt', cuc', las', sta', lef', rig', bc', bcn', pl', cos', tim', cut', spd', cnt', f1, f2, f3⟩ := p_reqDiv hS.1 hS.2.1 hS.2.2.1 hS.2.2.2.2 hC (wrt := wrt) (cuc := cuc) (las := las) (lef := lef) (rig := rig) (cos := cos) (cut := cut)
  have hD := f3.1.2.2.2.2.2
  unfold DB at hD
  have hq := q_writeChapters (th := th) (wm := wn) (G := G) (cos := qco) (pl := qpl) (cut := qcu) (by_ := wb) (Y := Y) (W := W) (C := C) (E := E) hS.1 hM
  unfold F_X10_writeChapters
  rw [ob24_s f1]
  cases hx : tbl A 0 with
  | none =>
    obtain ⟨W', C', E', G', Y', q1⟩ := hq.1 hx
    rw [if_neg (show ¬ (none : Option (Int × Nat × Nat)).isSome = true from Bool.false_ne_true), xoq_l, q1]
    exact ⟨_, _, _, _, _, _, _, _, _, _, _, _, _, _, _, _, _, _, _, _, _, _, _, _, _, _, _, _, _, _, _, _, _, _, _, _, _, _, rfl, rfl, ⟨A, H, m, T, b, L, hS, Or.inr ⟨f2, f3⟩, hH, hB, hP, hM, hK, hB2, hE, hW, rfl, rfl⟩, OU_1⟩
  | some x =>
    rw [hx] at hD
    obtain ⟨W', C', E', G', Y', qco', qpl', qcu', wb', q1, q2⟩ := hq.2 x hx
    obtain ⟨pb', g1, g2⟩ := p_chLoop (x := x) (by_ := pb) (s1 := stl') (v31 := bw') (v32 := dn') (v33 := lea') (v34 := mos') (v45 := bcn') (v35 := chg') (v37 := cat') (v38 := wrt') (v39 := cuc') (v40 := las') (v41 := sta') (v42 := lef') (v43 := rig') (v47 := cos') (v48 := tim') (v49 := cut') hS.1 hx f3.2.2.2.2 hS.2.1 hS.2.2.1 f3.2.1.2 hD.2.2.1
    have hw : cc' = nI (x.2.1 + 1) := hD.1
    rw [← hw] at g1
    have hl := pgc_len hS.1 hx (x.2.1 + 1) (Nat.le_refl _)
    have hK2 := (tbl_cht hx).K
    have hn := hS.1.n
    rw [if_pos (show (some x : Option (Int × Nat × Nat)).isSome = true from rfl), xoq_r]
    unfold F_X3_clear
    rw [ob1_some, ob2_s g1, q1]
    exact ⟨_, _, _, _, _, _, _, _, _, _, _, _, _, _, _, _, _, _, _, _, _, _, _, _, _, _, _, _, _, _, _, _, _, _, _, _, _, _, rfl, rfl, ⟨A, H, m, T, b, pgc A x.2.1 (x.2.1 + 1), hS, Or.inr ⟨f2, f3⟩, hH, hB, ⟨g2, by omega⟩, hM, hK, hB2, hE, q2, rfl, rfl⟩, OU_v⟩
end
