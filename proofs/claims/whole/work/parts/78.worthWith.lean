section
variable {A : Nat → Nat} {sc : Int32} {wc : Int32} {ord : Nat → Int32} {dur : Nat → Int32} {pau : Nat → Int32} {siz : Nat → Int32} {wor : Nat → Int32} {nam : Nat → Int64} {ns : Int32} {wi : Nat → Int32} {le : Nat → Int32} {re : Nat → Int32} {ex : Int32} {kn : Int32} {kt : Int32} {kr : Nat → Int32} {ks : Nat → Int32} {kd : Nat → Int32} {set : Nat → Int32} {stl : Int32} {cc : Int32} {bw : Int32} {dn : Int32} {lea : Int32} {mos : Int32} {chg : Nat → Int32} {fir : Nat → Int32} {cat : Nat → Int32} {sta : Nat → Int32} {bc : Int32} {bcn : Int32} {pl : Nat → Int32} {tim : Nat → Int32} {spd : Nat → Int32} {cnt : Nat → Int32} {hsz : Int32} {hol : Int32} {HI : Nat → gq_SH} {bl : Int32} {text : Nat → Int32} {ea : Int32} {pn : Int32} {pb : Nat → Int32} {a : Nat → Int64} {km : Int32} {kp : Nat → Int64} {bn : Int32} {buf : Nat → Int32} {qe : Int32} {wn : Int32} {wb : Nat → Int32} {tc : Int32} {tl : Int32} {wrt : Nat → Int32} {cuc : Nat → Int32} {las : Nat → Int32} {lef : Nat → Int32} {rig : Nat → Int32} {cos : Nat → Int32} {cut : Nat → Int32} {th : Int32} {W : Nat → Int32} {C : Nat → Int32} {E : Nat → Int32} {G : Nat → Int32} {Y : Nat → Int64} {qco : Nat → Int32} {qpl : Nat → Int32} {qcu : Nat → Int32}
theorem c_worthWith {x0 x1 : Int32} (h : REL sc wc ord dur pau siz wor nam ns wi le re ex kn kt kr ks kd set stl cc bw dn lea mos chg fir cat sta bc bcn pl tim spd cnt hsz hol HI bl text ea pn pb a km kp bn buf qe wn wb tc tl) : ∃ res r stl' cc' bw' dn' lea' mos' chg' fir' cat' wrt' cuc' las' sta' lef' rig' bc' bcn' pl' cos' tim' cut' spd' cnt' th' tc' tl' W' C' E' G' Y', F_X10_worthWith x0 x1 stl sc ord dur pau siz wor ns wi re set cc bw dn lea mos chg fir cat wrt cuc las sta lef rig bc bcn pl cos tim cut spd cnt = some (res, stl', cc', bw', dn', lea', mos', chg', fir', cat', wrt', cuc', las', sta', lef', rig', bc', bcn', pl', cos', tim', cut', spd', cnt') ∧ F_X11_worthWith x0 x1 th tc tl a W C E G Y = some (r, th', tc', tl', W', C', E', G', Y') ∧ REL sc wc ord dur pau siz wor nam ns wi le re ex kn kt kr ks kd set stl' cc' bw' dn' lea' mos' chg' fir' cat' sta' bc' bcn' pl' tim' spd' cnt' hsz hol HI bl text ea pn pb a km kp bn buf qe wn wb tc' tl' ∧ OU [(3,1), (4,2)] res th' r := by
  obtain ⟨A, H, m, T, b, L, hS, hC, hH, hB, hP, hM, hK, hB2, hE, hW, hc1, hc2⟩ := id h
  subst hc1; subst hc2
  have hn := hS.1.n
  have h3p := hS.1.s3
  have hsc := hS.2.1.1
  have hp3 : set (3 : Int32).toNatClampNeg = nI (A 3) := hS.2.2.2.2.at (k := 3) (by omega)
  unfold F_X10_worthWith F_X10_worthWith_b18 F_X10_worthWith_b28 F_X11_worthWith F_X11_worthWith_b14 F_X11_worthWith_b43 F_X11_worthWith_b56
  rw [q_isBnd hS.1 hM, ob1_some]
  rcases p_rqBnd x0 hsc hn with ⟨s, h1, h2, h3⟩ | ⟨h1, h2⟩
  · subst h2
    have ht : (nI s).toInt = s := nI_toInt (by omega)
    obtain ⟨stl', cc', bw', dn', lea', mos', chg', fir', cat', wrt', cuc', las', sta', lef', rig', bc', bcn', pl', cos', tim', cut', spd', cnt', f1, f2, f3⟩ := p_refresh hS.1 hS.2.1 hS.2.2.1 hS.2.2.2.2 hC (wrt := wrt) (cuc := cuc) (las := las) (lef := lef) (rig := rig) (cos := cos) (cut := cut)
    have g6 : ∀ {α : Type} (y : Option α), gi (3 : Int32) 6 y = y := fun y => gi_n (j := 3) (by omega) (by omega)
    rw [bI_1 (show 0 ≤ (nI s).toInt ∧ (nI s).toInt + 1 < A 6 by rw [ht]; omega), if_neg n10, if_pos l00, h3, ob1_some, xoq_r, ob23_s f1, g6, g6, g6, g6, hp3]
    by_cases c : x1 = 0
    · obtain ⟨wrt2, cuc2, las2, i1, i2⟩ := p_solve (w := 32) (b := s) (p := A 3) (c := ch A) (W := wrt') (C := cuc') (L := las') hS.1 f3.1.2.2.2.2.1 h3p (ch_le A) f3.1.2.2.2.1
      obtain ⟨W', C', E', G', Y', q1, q2⟩ := q_hasBest (w := 32) (b := s) (W := W) (C := C) (L := E) (G := G) (Y := Y) hS.1 hM
      rw [← f3.1.1, ← f3.1.2.1, ← f3.1.2.2.1, rI_32, rI_l (k := s) (n := 32) (by omega)] at i1
      rw [rI_32, rI_l (k := s) (n := 32) (by omega)] at q1
      have j1 := i2 0 (by omega)
      have j2 := (q2 0 (by omega)).1
      rw [if_pos c, if_pos c, if_pos c, show (-1 : Int32) = -nI 1 from rfl, i1, ob4_some, q1, ob6_some]
      cases hT : dTb (A 6) (okc A 32 s) (fun e => (ch A e : Int) - A 3) (A 6) 0 with
      | none =>
        rw [bI_0 (fun h9 => by have := h9.2; exact absurd this Bool.false_ne_true), if_pos z00, if_pos z00, if_neg (show ¬ (2 : Int32) ≤ 0 by decide)]
        exact ⟨_, _, _, _, _, _, _, _, _, _, _, _, _, _, _, _, _, _, _, _, _, _, _, _, _, _, _, _, _, _, _, _, _, rfl, rfl, ⟨A, H, m, T, b, L, hS, Or.inr ⟨f2, f3⟩, hH, hB, hP, hM, hK, hB2, hE, hW, rfl, rfl⟩, OU_2⟩
      | some y =>
        rw [hT] at j1 j2
        have j3 : wrt2 (0 : Int32).toNatClampNeg = iI y.1 := j1.1
        have j4 : W' (0 : Int32).toNatClampNeg = iI y.1 := j2.1
        rw [bI_1 ⟨by omega, rfl⟩, if_neg n10, if_neg n10, if_pos l00, gi_z (by omega) (by omega), gi_z (by omega) (by omega), j3, j4]
        exact ⟨_, _, _, _, _, _, _, _, _, _, _, _, _, _, _, _, _, _, _, _, _, _, _, _, _, _, _, _, _, _, _, _, _, rfl, rfl, ⟨A, H, m, T, b, L, hS, Or.inr ⟨f2, f3⟩, hH, hB, hP, hM, hK, hB2, hE, hW, rfl, rfl⟩, OU_v⟩
    · obtain ⟨wrt2, cuc2, las2, i1, i2⟩ := p_solve (w := s) (b := 32) (p := A 3) (c := ch A) (W := wrt') (C := cuc') (L := las') hS.1 f3.1.2.2.2.2.1 h3p (ch_le A) f3.1.2.2.2.1
      obtain ⟨W', C', E', G', Y', q1, q2⟩ := q_hasBest (w := s) (b := 32) (W := W) (C := C) (L := E) (G := G) (Y := Y) hS.1 hM
      rw [← f3.1.1, ← f3.1.2.1, ← f3.1.2.2.1, rI_l (k := s) (n := 32) (by omega), rI_32] at i1
      rw [rI_l (k := s) (n := 32) (by omega), rI_32] at q1
      have j1 := i2 0 (by omega)
      have j2 := (q2 0 (by omega)).1
      rw [if_neg c, if_neg c, if_neg c, show (-1 : Int32) = -nI 1 from rfl, i1, ob4_some, q1, ob6_some]
      cases hT : dTb (A 6) (okc A s 32) (fun e => (ch A e : Int) - A 3) (A 6) 0 with
      | none =>
        rw [bI_0 (fun h9 => by have := h9.2; exact absurd this Bool.false_ne_true), if_pos z00, if_pos z00, if_neg (show ¬ (2 : Int32) ≤ 0 by decide)]
        exact ⟨_, _, _, _, _, _, _, _, _, _, _, _, _, _, _, _, _, _, _, _, _, _, _, _, _, _, _, _, _, _, _, _, _, rfl, rfl, ⟨A, H, m, T, b, L, hS, Or.inr ⟨f2, f3⟩, hH, hB, hP, hM, hK, hB2, hE, hW, rfl, rfl⟩, OU_2⟩
      | some y =>
        rw [hT] at j1 j2
        have j3 : wrt2 (0 : Int32).toNatClampNeg = iI y.1 := j1.1
        have j4 : W' (0 : Int32).toNatClampNeg = iI y.1 := j2.1
        rw [bI_1 ⟨by omega, rfl⟩, if_neg n10, if_neg n10, if_pos l00, gi_z (by omega) (by omega), gi_z (by omega) (by omega), j3, j4]
        exact ⟨_, _, _, _, _, _, _, _, _, _, _, _, _, _, _, _, _, _, _, _, _, _, _, _, _, _, _, _, _, _, _, _, _, rfl, rfl, ⟨A, H, m, T, b, L, hS, Or.inr ⟨f2, f3⟩, hH, hB, hP, hM, hK, hB2, hE, hW, rfl, rfl⟩, OU_v⟩
  · rw [h2, ob1_some, xoq_l, bI_0 h1, if_pos z00, if_neg l10]
    exact ⟨_, _, _, _, _, _, _, _, _, _, _, _, _, _, _, _, _, _, _, _, _, _, _, _, _, _, _, _, _, _, _, _, _, rfl, rfl, h, OU_1⟩
end
