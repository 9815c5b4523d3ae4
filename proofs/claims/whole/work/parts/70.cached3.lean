section
variable {A : Nat → Nat} {sc : Int32} {wc : Int32} {ord : Nat → Int32} {dur : Nat → Int32} {pau : Nat → Int32} {siz : Nat → Int32} {wor : Nat → Int32} {nam : Nat → Int64} {ns : Int32} {wi : Nat → Int32} {le : Nat → Int32} {re : Nat → Int32} {ex : Int32} {kn : Int32} {kt : Int32} {kr : Nat → Int32} {ks : Nat → Int32} {kd : Nat → Int32} {set : Nat → Int32} {stl : Int32} {cc : Int32} {bw : Int32} {dn : Int32} {lea : Int32} {mos : Int32} {chg : Nat → Int32} {fir : Nat → Int32} {cat : Nat → Int32} {sta : Nat → Int32} {bc : Int32} {bcn : Int32} {pl : Nat → Int32} {tim : Nat → Int32} {spd : Nat → Int32} {cnt : Nat → Int32} {hsz : Int32} {hol : Int32} {HI : Nat → gq_SH} {bl : Int32} {text : Nat → Int32} {ea : Int32} {pn : Int32} {pb : Nat → Int32} {a : Nat → Int64} {km : Int32} {kp : Nat → Int64} {bn : Int32} {buf : Nat → Int32} {qe : Int32} {wn : Int32} {wb : Nat → Int32} {tc : Int32} {tl : Int32} {wrt : Nat → Int32} {cuc : Nat → Int32} {las : Nat → Int32} {lef : Nat → Int32} {rig : Nat → Int32} {cos : Nat → Int32} {cut : Nat → Int32} {th : Int32} {W : Nat → Int32} {C : Nat → Int32} {E : Nat → Int32} {G : Nat → Int32} {Y : Nat → Int64} {qco : Nat → Int32} {qpl : Nat → Int32} {qcu : Nat → Int32} {dwy : Nat → Int64}
theorem pco_le (hV : VA A) {c : Nat} (hp : pco A = some c) : c ≤ 210000 := by
  unfold pco at hp
  cases hy : pst A (A 8) with
  | none => rw [hy] at hp; cases hp
  | some y =>
    rw [hy] at hp
    dsimp only at hp
    by_cases h0 : A 8 = 0
    · rw [if_pos h0] at hp; cases hp; omega
    · rw [if_neg h0] at hp
      cases hz : plc A 0 with
      | none => rw [hz] at hp; cases hp
      | some x =>
        rw [hz] at hp
        cases hp
        have h2 : cp A (rw_ A 0) 0 0 = some x := hz
        exact (cp_b hV (by omega) h2).2.2.1
noncomputable def noc (A : Nat → Nat) (x0 : Int32) : Int32 := match tbl A 0 with
  | none => nI 1
  | some x => if 0 ≤ x0.toInt ∧ x0.toInt ≤ x.2.1 then nI 0 else nI 2
theorem noc_0 {x : Int × Nat × Nat} {x0 : Int32} (hx : tbl A 0 = some x) (h : 0 ≤ x0.toInt ∧ x0.toInt ≤ x.2.1) : noc A x0 = nI 0 := by
  unfold noc; rw [hx]; exact if_pos h
theorem noc_2 {x : Int × Nat × Nat} {x0 : Int32} (hx : tbl A 0 = some x) (h : ¬ (0 ≤ x0.toInt ∧ x0.toInt ≤ x.2.1)) : noc A x0 = nI 2 := by
  unfold noc; rw [hx]; exact if_neg h
theorem q_noCh (hV : VA A) (hM : MR A a) (x0 : Int32) : ∃ W' C' E' G' Y', F_X11_noChapter x0 (-nI 1) (-nI 1) a W C E G Y = some (noc A x0, W', C', E', G', Y') ∧ RB A W' C' E' := by
  have hn := hV.n
  obtain ⟨W', C', E', G', Y', q1, q2, q3⟩ := q_best (W := W) (C := C) (L := E) (G := G) (Y := Y) hV hM
  refine ⟨W', C', E', G', Y', ?_, q2⟩
  unfold F_X11_noChapter
  rw [q1, ob6_some]
  cases hx : tbl A 0 with
  | none =>
    rw [bI_0 (show ¬ (none : Option (Int × Nat × Nat)).isSome = true from Bool.false_ne_true), if_pos z00]
    unfold noc; rw [hx]; rfl
  | some x =>
    have hK := (tbl_cht hx).K
    have hz : C' (0 : Int32).toNatClampNeg = nI x.2.1 := (q2.z hx).2.1
    have hi := q_isInN x0 (lo := 0) (hi := x.2.1) (by omega) (by omega)
    rw [bI_1 (show (some x : Option (Int × Nat × Nat)).isSome = true from rfl), if_neg n10, gi_z (by omega) (by omega), hz, nI_l (by omega), show (0 : Int64) = lN 0 from rfl, hi, ob1_some]
    by_cases c : ((0 : Nat) : Int) ≤ x0.toInt ∧ x0.toInt ≤ (x.2.1 : Int)
    · rw [bI_1 c, if_neg n10, noc_0 hx (by omega)]; rfl
    · rw [bI_0 c, if_pos z00, noc_2 hx (by omega)]; rfl
theorem c_placeOf {x0 : Int32} (h : REL sc wc ord dur pau siz wor nam ns wi le re ex kn kt kr ks kd set stl cc bw dn lea mos chg fir cat sta bc bcn pl tim spd cnt hsz hol HI bl text ea pn pb a km kp bn buf qe wn wb tc tl) : ∃ res r stl' cc' bw' dn' lea' mos' chg' fir' cat' wrt' cuc' las' sta' lef' rig' bc' bcn' pl' cos' tim' cut' spd' cnt' th' W' C' E' G' Y' qco' qpl' qcu', F_X10_placeOf x0 stl sc ord dur pau siz wor ns wi re set cc bw dn lea mos chg fir cat wrt cuc las sta lef rig bc bcn pl cos tim cut spd cnt = some (res, stl', cc', bw', dn', lea', mos', chg', fir', cat', wrt', cuc', las', sta', lef', rig', bc', bcn', pl', cos', tim', cut', spd', cnt') ∧ F_X11_placeOf x0 th tc tl a W C E G Y qco qpl qcu = some (r, th', W', C', E', G', Y', qco', qpl', qcu') ∧ REL sc wc ord dur pau siz wor nam ns wi le re ex kn kt kr ks kd set stl' cc' bw' dn' lea' mos' chg' fir' cat' sta' bc' bcn' pl' tim' spd' cnt' hsz hol HI bl text ea pn pb a km kp bn buf qe wn wb tc tl ∧ OU [(3,1)] res th' r := by
  obtain ⟨A, H, m, T, b, L, hS, hC, hH, hB, hP, hM, hK, hB2, hE, hW, hc1, hc2⟩ := id h
  subst hc1; subst hc2
  have hn := hS.1.nl
  have hns := hS.2.2.1.1
  unfold F_X10_placeOf F_X11_placeOf F_X11_placeOf_b14
  rw [q_isSlt hS.1 hM, ob1_some]
  rcases r_Slot x0 hns (by omega) with ⟨s, h1, h2, h3⟩ | ⟨h1, h2⟩
  · subst h2
    have ht : (nI s).toInt = s := nI_toInt (by omega)
    obtain ⟨stl', cc', bw', dn', lea', mos', chg', fir', cat', wrt', cuc', las', sta', lef', rig', bc', bcn', pl', cos', tim', cut', spd', cnt', f1, f2, f3⟩ := p_refresh hS.1 hS.2.1 hS.2.2.1 hS.2.2.2.2 hC (wrt := wrt) (cuc := cuc) (las := las) (lef := lef) (rig := rig) (cos := cos) (cut := cut)
    obtain ⟨W', C', E', G', Y', qco', qpl', qcu', q1, q2, q3⟩ := q_laysPlaces (W := W) (C := C) (E := E) (G := G) (Y := Y) (cos := qco) (pl := qpl) (cut0 := qcu) hS.1 hM
    rw [h3, ob1_some, xoq_r, ob23_s f1, bI_1 (by rw [ht]; omega), if_neg n10, if_pos l00, ob9_s q1]
    have hbc := f3.2.1.1
    cases hp : pco A with
    | none =>
      rw [hp] at hbc
      have hbc : bc' = -nI 1 := hbc
      rw [if_pos (show bc' = (-1 : Int32) from hbc), if_pos (show oI none = (-1 : Int32) from rfl)]
      exact ⟨_, _, _, _, _, _, _, _, _, _, _, _, _, _, _, _, _, _, _, _, _, _, _, _, _, _, _, _, _, _, _, _, _, _, rfl, rfl, ⟨A, H, m, T, b, L, hS, Or.inr ⟨f2, f3⟩, hH, hB, hP, hM, hK, hB2, hE, hW, rfl, rfl⟩, OU_v⟩
    | some c =>
      have hb := pco_le hS.1 hp
      obtain ⟨y, hy⟩ := pco_some hp s h1
      have i1 := f3.2.1.2.2 (by rw [hp]; rfl) s y h1 hy
      have i2 := q3 (by rw [hp]; rfl) s y h1 hy
      rw [hp] at hbc
      have hbc : bc' = nI c := hbc
      have hne : ¬ nI c = (-1 : Int32) := fun h => by have h : nI c = -nI 1 := h; rw [mI_eqR (by omega)] at h; exact h
      rw [if_neg (show ¬ bc' = (-1 : Int32) by rw [hbc]; exact hne), if_neg (show ¬ oI (some c) = (-1 : Int32) from hne), gi_n (by omega) (by omega), gi_n (by omega) (by omega), nI_clamp (by omega), i1, i2]
      exact ⟨_, _, _, _, _, _, _, _, _, _, _, _, _, _, _, _, _, _, _, _, _, _, _, _, _, _, _, _, _, _, _, _, _, _, rfl, rfl, ⟨A, H, m, T, b, L, hS, Or.inr ⟨f2, f3⟩, hH, hB, hP, hM, hK, hB2, hE, hW, rfl, rfl⟩, OU_v⟩
  · rw [h2, ob1_some, xoq_l, bI_0 h1, if_pos z00, if_neg l10]
    exact ⟨_, _, _, _, _, _, _, _, _, _, _, _, _, _, _, _, _, _, _, _, _, _, _, _, _, _, _, _, _, _, _, _, _, _, rfl, rfl, h, OU_1⟩
theorem c_mark {x0 x1 : Int32} (h : REL sc wc ord dur pau siz wor nam ns wi le re ex kn kt kr ks kd set stl cc bw dn lea mos chg fir cat sta bc bcn pl tim spd cnt hsz hol HI bl text ea pn pb a km kp bn buf qe wn wb tc tl) : ∃ res r stl' cc' bw' dn' lea' mos' chg' fir' cat' wrt' cuc' las' sta' lef' rig' bc' bcn' pl' cos' tim' cut' spd' cnt' th' W' C' E' G' Y', F_X10_mark x0 x1 stl sc wc ord dur pau siz wor ns wi re set cc bw dn lea mos chg fir cat wrt cuc las sta lef rig bc bcn pl cos tim cut spd cnt = some (res, stl', cc', bw', dn', lea', mos', chg', fir', cat', wrt', cuc', las', sta', lef', rig', bc', bcn', pl', cos', tim', cut', spd', cnt') ∧ F_X11_mark x0 x1 th tc tl a W C E G Y = some (r, th', W', C', E', G', Y') ∧ REL sc wc ord dur pau siz wor nam ns wi le re ex kn kt kr ks kd set stl' cc' bw' dn' lea' mos' chg' fir' cat' sta' bc' bcn' pl' tim' spd' cnt' hsz hol HI bl text ea pn pb a km kp bn buf qe wn wb tc tl ∧ OU [(4,1), (3,2)] res th' r := by
  obtain ⟨A, H, m, T, b, L, hS, hC, hH, hB, hP, hM, hK, hB2, hE, hW, hc1, hc2⟩ := id h
  subst hc1; subst hc2
  obtain ⟨stl', cc', bw', dn', lea', mos', chg', fir', cat', wrt', cuc', las', sta', lef', rig', bc', bcn', pl', cos', tim', cut', spd', cnt', f1, f2, f3⟩ := p_reqDiv hS.1 hS.2.1 hS.2.2.1 hS.2.2.2.2 hC (wrt := wrt) (cuc := cuc) (las := las) (lef := lef) (rig := rig) (cos := cos) (cut := cut)
  obtain ⟨W', C', E', G', Y', q1, q2⟩ := q_noCh (W := W) (C := C) (E := E) (G := G) (Y := Y) hS.1 hM x0
  have hn := hS.1.n
  have hnw := hS.1.nw
  have hwc := hS.2.1.2.1
  have hD := f3.1.2.2.2.2.2
  unfold DB at hD
  unfold F_X10_mark F_X11_mark F_X11_mark_b29
  rw [ob24_s f1, q1, ob6_some]
  cases hx : tbl A 0 with
  | none =>
    rw [if_neg (show ¬ (none : Option (Int × Nat × Nat)).isSome = true from Bool.false_ne_true), xoq_l]
    have e : noc A x0 = nI 1 := by unfold noc; rw [hx]
    rw [e]
    rw [if_neg n10, if_neg (show ¬ nI 1 ≤ (0 : Int32) by decide)]
    exact ⟨_, _, _, _, _, _, _, _, _, _, _, _, _, _, _, _, _, _, _, _, _, _, _, _, _, _, _, _, _, _, _, rfl, rfl, ⟨A, H, m, T, b, L, hS, Or.inr ⟨f2, f3⟩, hH, hB, hP, hM, hK, hB2, hE, hW, rfl, rfl⟩, OU_1⟩
  | some x =>
    rw [hx] at hD
    have hK2 := (tbl_cht hx).K
    have hw : cc' = nI (x.2.1 + 1) := hD.1
    rw [if_pos (show (some x : Option (Int × Nat × Nat)).isSome = true from rfl), xoq_r]
    rcases r_Chap x0 hw (by omega) with ⟨c, h1, h2, h3⟩ | ⟨h1, h2⟩
    · subst h2
      have ht : (nI c).toInt = c := nI_toInt (by omega)
      have e : noc A (nI c) = nI 0 := noc_0 hx (by rw [ht]; omega)
      rw [e, h3, ob1_some, xoq_r]
      rw [if_pos z00, q_isKnow hS.1 hM, ob1_some]
      rcases r_Word x1 hwc (by omega) with ⟨w, k1, k2, k3⟩ | ⟨k1, k2⟩
      · subst k2
        have hw2 : (nI w).toInt = w := nI_toInt (by omega)
        rw [k3, ob1_some, xoq_r, bI_1 (by rw [hw2]; omega), if_neg n10, if_pos (show nI 0 ≤ (0 : Int32) by decide), p_markOf hS.1 hx f3.2.2.2.2 (by omega) (by omega), ob1_some, q_markOf hS.1 hM hx q2 (by omega) (by omega), ob1_some]
        exact ⟨_, _, _, _, _, _, _, _, _, _, _, _, _, _, _, _, _, _, _, _, _, _, _, _, _, _, _, _, _, _, _, rfl, rfl, ⟨A, H, m, T, b, L, hS, Or.inr ⟨f2, f3⟩, hH, hB, hP, hM, hK, hB2, hE, hW, rfl, rfl⟩, OU_v⟩
      · rw [k2, ob1_some, xoq_l, bI_0 k1, if_pos z00, if_neg (show ¬ (2 : Int32) ≤ (0 : Int32) by decide)]
        exact ⟨_, _, _, _, _, _, _, _, _, _, _, _, _, _, _, _, _, _, _, _, _, _, _, _, _, _, _, _, _, _, _, rfl, rfl, ⟨A, H, m, T, b, L, hS, Or.inr ⟨f2, f3⟩, hH, hB, hP, hM, hK, hB2, hE, hW, rfl, rfl⟩, OU_2⟩
    · have e : noc A x0 = nI 2 := noc_2 hx (by omega)
      rw [e, h2, ob1_some, xoq_l]
      rw [if_neg (show ¬ nI 2 = (0 : Int32) by decide), if_neg (show ¬ nI 2 ≤ (0 : Int32) by decide)]
      exact ⟨_, _, _, _, _, _, _, _, _, _, _, _, _, _, _, _, _, _, _, _, _, _, _, _, _, _, _, _, _, _, _, rfl, rfl, ⟨A, H, m, T, b, L, hS, Or.inr ⟨f2, f3⟩, hH, hB, hP, hM, hK, hB2, hE, hW, rfl, rfl⟩, OU_2⟩
theorem c_typical {x0 : Int32} (h : REL sc wc ord dur pau siz wor nam ns wi le re ex kn kt kr ks kd set stl cc bw dn lea mos chg fir cat sta bc bcn pl tim spd cnt hsz hol HI bl text ea pn pb a km kp bn buf qe wn wb tc tl) : ∃ res r stl' cc' bw' dn' lea' mos' chg' fir' cat' wrt' cuc' las' sta' lef' rig' bc' bcn' pl' cos' tim' cut' spd' cnt' th' W' C' E' G' Y', F_X10_typical x0 stl sc ord dur pau siz wor ns wi re set cc bw dn lea mos chg fir cat wrt cuc las sta lef rig bc bcn pl cos tim cut spd cnt = some (res, stl', cc', bw', dn', lea', mos', chg', fir', cat', wrt', cuc', las', sta', lef', rig', bc', bcn', pl', cos', tim', cut', spd', cnt') ∧ F_X11_typical x0 th tc tl a W C E G Y = some (r, th', W', C', E', G', Y') ∧ REL sc wc ord dur pau siz wor nam ns wi le re ex kn kt kr ks kd set stl' cc' bw' dn' lea' mos' chg' fir' cat' sta' bc' bcn' pl' tim' spd' cnt' hsz hol HI bl text ea pn pb a km kp bn buf qe wn wb tc tl ∧ OU [(4,1), (3,2)] res th' r := by
  obtain ⟨A, H, m, T, b, L, hS, hC, hH, hB, hP, hM, hK, hB2, hE, hW, hc1, hc2⟩ := id h
  subst hc1; subst hc2
  obtain ⟨stl', cc', bw', dn', lea', mos', chg', fir', cat', wrt', cuc', las', sta', lef', rig', bc', bcn', pl', cos', tim', cut', spd', cnt', f1, f2, f3⟩ := p_reqDiv hS.1 hS.2.1 hS.2.2.1 hS.2.2.2.2 hC (wrt := wrt) (cuc := cuc) (las := las) (lef := lef) (rig := rig) (cos := cos) (cut := cut)
  obtain ⟨W', C', E', G', Y', q1, q2⟩ := q_noCh (W := W) (C := C) (E := E) (G := G) (Y := Y) hS.1 hM x0
  have hn := hS.1.n
  have hnw := hS.1.nw
  have hwc := hS.2.1.2.1
  have hD := f3.1.2.2.2.2.2
  unfold DB at hD
  unfold F_X10_typical F_X11_typical 
  rw [ob24_s f1, q1, ob6_some]
  cases hx : tbl A 0 with
  | none =>
    rw [if_neg (show ¬ (none : Option (Int × Nat × Nat)).isSome = true from Bool.false_ne_true), xoq_l]
    have e : noc A x0 = nI 1 := by unfold noc; rw [hx]
    rw [e]
    rw [if_neg (show ¬ nI 1 ≤ (0 : Int32) by decide)]
    exact ⟨_, _, _, _, _, _, _, _, _, _, _, _, _, _, _, _, _, _, _, _, _, _, _, _, _, _, _, _, _, _, _, rfl, rfl, ⟨A, H, m, T, b, L, hS, Or.inr ⟨f2, f3⟩, hH, hB, hP, hM, hK, hB2, hE, hW, rfl, rfl⟩, OU_1⟩
  | some x =>
    rw [hx] at hD
    have hK2 := (tbl_cht hx).K
    have hw : cc' = nI (x.2.1 + 1) := hD.1
    rw [if_pos (show (some x : Option (Int × Nat × Nat)).isSome = true from rfl), xoq_r]
    rcases r_Chap x0 hw (by omega) with ⟨c, h1, h2, h3⟩ | ⟨h1, h2⟩
    · subst h2
      have ht : (nI c).toInt = c := nI_toInt (by omega)
      have e : noc A (nI c) = nI 0 := noc_0 hx (by rw [ht]; omega)
      rw [e, h3, ob1_some, xoq_r]
      have g1 := p_lastOf hS.1 hx hD.2.2.1 (k := c) (by omega)
      rw [← hw, ← f3.1.1] at g1
      have g2 := p_mostTypical hS.1 hS.2.1 hx f3.2.2.2.2 (c := c) (by omega)
      have g3 := q_typicalLoop (th := nI 0) (G := G') (Y := Y') hS.1 hM hx q2 (c := c) (by omega)
      rw [gi_n (by omega) (by omega), g1, ob1_some, nI_clamp (by omega), hD.2.2.1 c (by omega), g2, ob1_some, if_pos (show nI 0 ≤ (0 : Int32) by decide), q_beginOf hS.1 hx q2 (by omega), ob1_some, show (-1 : Int32) = -nI 1 from rfl, ob1_s g3]
      exact ⟨_, _, _, _, _, _, _, _, _, _, _, _, _, _, _, _, _, _, _, _, _, _, _, _, _, _, _, _, _, _, _, rfl, rfl, ⟨A, H, m, T, b, L, hS, Or.inr ⟨f2, f3⟩, hH, hB, hP, hM, hK, hB2, hE, hW, rfl, rfl⟩, OU_v⟩
    · have e : noc A x0 = nI 2 := noc_2 hx (by omega)
      rw [e, h2, ob1_some, xoq_l]
      rw [if_neg (show ¬ nI 2 ≤ (0 : Int32) by decide)]
      exact ⟨_, _, _, _, _, _, _, _, _, _, _, _, _, _, _, _, _, _, _, _, _, _, _, _, _, _, _, _, _, _, _, rfl, rfl, ⟨A, H, m, T, b, L, hS, Or.inr ⟨f2, f3⟩, hH, hB, hP, hM, hK, hB2, hE, hW, rfl, rfl⟩, OU_2⟩
end
