section
variable {A : Nat → Nat} {sc : Int32} {wc : Int32} {ord : Nat → Int32} {dur : Nat → Int32} {pau : Nat → Int32} {siz : Nat → Int32} {wor : Nat → Int32} {nam : Nat → Int64} {ns : Int32} {wi : Nat → Int32} {le : Nat → Int32} {re : Nat → Int32} {ex : Int32} {kn : Int32} {kt : Int32} {kr : Nat → Int32} {ks : Nat → Int32} {kd : Nat → Int32} {set : Nat → Int32} {stl : Int32} {cc : Int32} {bw : Int32} {dn : Int32} {lea : Int32} {mos : Int32} {chg : Nat → Int32} {fir : Nat → Int32} {cat : Nat → Int32} {sta : Nat → Int32} {bc : Int32} {bcn : Int32} {pl : Nat → Int32} {tim : Nat → Int32} {spd : Nat → Int32} {cnt : Nat → Int32} {hsz : Int32} {hol : Int32} {HI : Nat → gq_SH} {bl : Int32} {text : Nat → Int32} {ea : Int32} {pn : Int32} {pb : Nat → Int32} {a : Nat → Int64} {km : Int32} {kp : Nat → Int64} {bn : Int32} {buf : Nat → Int32} {qe : Int32} {wn : Int32} {wb : Nat → Int32} {tc : Int32} {tl : Int32} {wrt : Nat → Int32} {cuc : Nat → Int32} {las : Nat → Int32} {lef : Nat → Int32} {rig : Nat → Int32} {cos : Nat → Int32} {cut : Nat → Int32} {th : Int32} {W : Nat → Int32} {C : Nat → Int32} {E : Nat → Int32} {G : Nat → Int32} {Y : Nat → Int64} {qco : Nat → Int32} {qpl : Nat → Int32} {qcu : Nat → Int32}
theorem OU_3 {c e c2 e2 c3 e3 : Nat} {l : List (Nat × Nat)} {r : Int32} : OU ((c3, e3) :: (c2, e2) :: (c, e) :: l) (.inl c) (nI e) r := ⟨e, List.mem_cons_of_mem _ (List.mem_cons_of_mem _ List.mem_cons_self), rfl⟩
theorem sp_le2 {A : Nat → Nat} {i : Nat} : ∀ d, sp A i ≤ sp A (i + d) := by
  intro d
  induction d with
  | zero => exact Nat.le_refl _
  | succ d ih =>
    have := sp_s A (i + d)
    rw [show i + (d + 1) = i + d + 1 from rfl]
    omega
theorem c_chapter {x0 x1 : Int32} (h : REL sc wc ord dur pau siz wor nam ns wi le re ex kn kt kr ks kd set stl cc bw dn lea mos chg fir cat sta bc bcn pl tim spd cnt hsz hol HI bl text ea pn pb a km kp bn buf qe wn wb tc tl) : ∃ res r stl' cc' bw' dn' lea' mos' chg' fir' cat' wrt' cuc' las' sta' lef' rig' bc' bcn' pl' cos' tim' cut' spd' cnt' th' W' C' E' G' Y' qco' qpl' qcu', F_X10_chapter x0 x1 stl sc ord dur pau siz wor ns wi le re set cc bw dn lea mos chg fir cat wrt cuc las sta lef rig bc bcn pl cos tim cut spd cnt = some (res, stl', cc', bw', dn', lea', mos', chg', fir', cat', wrt', cuc', las', sta', lef', rig', bc', bcn', pl', cos', tim', cut', spd', cnt') ∧ F_X11_chapter x0 x1 th tc tl a W C E G Y qco qpl qcu = some (r, th', W', C', E', G', Y', qco', qpl', qcu') ∧ REL sc wc ord dur pau siz wor nam ns wi le re ex kn kt kr ks kd set stl' cc' bw' dn' lea' mos' chg' fir' cat' sta' bc' bcn' pl' tim' spd' cnt' hsz hol HI bl text ea pn pb a km kp bn buf qe wn wb tc tl ∧ OU [(4,1), (3,2), (2,3)] res th' r := by
  obtain ⟨A, H, m, T, b, L, hS, hC, hH, hB, hP, hM, hK, hB2, hE, hW, hc1, hc2⟩ := id h
  subst hc1; subst hc2
  obtain ⟨stl', cc', bw', dn', lea', mos', chg', fir', cat', wrt', cuc', las', sta', lef', rig', bc', bcn', pl', cos', tim', cut', spd', cnt', f1, f2, f3⟩ := p_reqDiv hS.1 hS.2.1 hS.2.2.1 hS.2.2.2.2 hC (wrt := wrt) (cuc := cuc) (las := las) (lef := lef) (rig := rig) (cos := cos) (cut := cut)
  obtain ⟨W', C', E', G', Y', q1, q2⟩ := q_noCh (W := W) (C := C) (E := E) (G := G) (Y := Y) hS.1 hM x0
  have hn := hS.1.n
  have hD := f3.1.2.2.2.2.2
  have hi := q_isInN x1 (lo := 0) (hi := 4) (by omega) (by omega)
  unfold DB at hD
  unfold F_X10_chapter F_X11_chapter F_X11_chapter_b33
  rw [ob24_s f1, q1, ob6_some]
  cases hx : tbl A 0 with
  | none =>
    rw [if_neg (show ¬ (none : Option (Int × Nat × Nat)).isSome = true from Bool.false_ne_true), xoq_l]
    have e : noc A x0 = nI 1 := by unfold noc; rw [hx]
    rw [e, if_neg n10, if_neg (show ¬ nI 1 ≤ (0 : Int32) by decide)]
    exact ⟨_, _, _, _, _, _, _, _, _, _, _, _, _, _, _, _, _, _, _, _, _, _, _, _, _, _, _, _, _, _, _, _, _, _, rfl, rfl, ⟨A, H, m, T, b, L, hS, Or.inr ⟨f2, f3⟩, hH, hB, hP, hM, hK, hB2, hE, hW, rfl, rfl⟩, OU_1⟩
  | some x =>
    rw [hx] at hD
    have hcht := tbl_cht hx
    have hK2 := hcht.K
    have hw : cc' = nI (x.2.1 + 1) := hD.1
    rw [if_pos (show (some x : Option (Int × Nat × Nat)).isSome = true from rfl), xoq_r]
    rcases r_Chap x0 hw (by omega) with ⟨c, h1, h2, h3⟩ | ⟨h1, h2⟩
    · subst h2
      have ht : (nI c).toInt = c := nI_toInt (by omega)
      have e : noc A (nI c) = nI 0 := noc_0 hx (by rw [ht]; omega)
      have b1 := hcht.1 c (by omega)
      have g0 := hcht.le (i := c + 1) (j := x.2.1 + 1) (by omega) (Nat.le_refl _)
      have hz := hcht.2
      have w1 : en (tbl A) (bg (tbl A) c) < A 6 := by have := bg_s (tbl A) c; omega
      have gl := p_lastOf hS.1 hx hD.2.2.1 (k := c) (by omega)
      rw [← hw, ← f3.1.1] at gl
      rw [e, h3, ob1_some, xoq_r, if_pos z00, gi_n (show c < 32 by omega) (by omega), gl, ob1_some, nI_clamp (by omega), hD.2.2.1 c (by omega), show (0 : Int64) = lN 0 from rfl, show (4 : Int64) = lN 4 from rfl, hi, ob1_some]
      by_cases cc : ((0 : Nat) : Int) ≤ x1.toInt ∧ x1.toInt ≤ ((4 : Nat) : Int)
      · obtain ⟨t, e1, e2, e3⟩ := rq_at (x := x1) (by omega)
        subst e1
        rw [bI_1 cc, if_neg n10, if_pos (show nI 0 ≤ (0 : Int32) by decide), q_beginOf hS.1 hx q2 (by omega), ob1_some, gi_n (show bg (tbl A) c < 33 by omega) (by omega), nI_clamp (by omega), q2.en hx (by omega)]
        rcases (show t = 0 ∨ t = 1 ∨ t = 2 ∨ t = 3 ∨ t = 4 by omega) with e | e | e | e | e <;> subst e
        · rw [if_pos (show nI 0 = (0 : Int32) by decide), if_pos (show nI 0 = (0 : Int32) by decide)]
          exact ⟨_, _, _, _, _, _, _, _, _, _, _, _, _, _, _, _, _, _, _, _, _, _, _, _, _, _, _, _, _, _, _, _, _, _, rfl, rfl, ⟨A, H, m, T, b, L, hS, Or.inr ⟨f2, f3⟩, hH, hB, hP, hM, hK, hB2, hE, hW, rfl, rfl⟩, OU_v⟩
        · rw [if_neg (show ¬ nI 1 = (0 : Int32) by decide), if_pos (show nI 1 = (1 : Int32) by decide), if_neg (show ¬ nI 1 = (0 : Int32) by decide), if_pos (show nI 1 = (1 : Int32) by decide)]
          exact ⟨_, _, _, _, _, _, _, _, _, _, _, _, _, _, _, _, _, _, _, _, _, _, _, _, _, _, _, _, _, _, _, _, _, _, rfl, rfl, ⟨A, H, m, T, b, L, hS, Or.inr ⟨f2, f3⟩, hH, hB, hP, hM, hK, hB2, hE, hW, rfl, rfl⟩, OU_v⟩
        · have gd := p_durationFrom hS.1 f3.1.2.2.2.2.1 b1.2.2 w1
          have s1 := q_spoken hS.1 hM (s := en (tbl A) (bg (tbl A) c) + 1) (by omega)
          have s2 := q_spoken hS.1 hM (s := bg (tbl A) c) (by omega)
          have m1 := sp_le2 (A := A) (i := bg (tbl A) c) (en (tbl A) (bg (tbl A) c) + 1 - bg (tbl A) c)
          rw [show bg (tbl A) c + (en (tbl A) (bg (tbl A) c) + 1 - bg (tbl A) c) = en (tbl A) (bg (tbl A) c) + 1 by omega] at m1
          rw [if_neg (show ¬ nI 2 = (0 : Int32) by decide), if_neg (show ¬ nI 2 = (1 : Int32) by decide), if_pos (show nI 2 = (2 : Int32) by decide), if_neg (show ¬ nI 2 = (0 : Int32) by decide), if_neg (show ¬ nI 2 = (1 : Int32) by decide), if_pos (show nI 2 = (2 : Int32) by decide), gd, ob1_some, show nI (en (tbl A) (bg (tbl A) c)) + (1 : Int32) = nI (en (tbl A) (bg (tbl A) c) + 1) from nI_add _ 1, s1, ob1_some, s2, ob1_some, pk_sub m1]
          exact ⟨_, _, _, _, _, _, _, _, _, _, _, _, _, _, _, _, _, _, _, _, _, _, _, _, _, _, _, _, _, _, _, _, _, _, rfl, rfl, ⟨A, H, m, T, b, L, hS, Or.inr ⟨f2, f3⟩, hH, hB, hP, hM, hK, hB2, hE, hW, rfl, rfl⟩, OU_v⟩
        · rw [if_neg (show ¬ nI 3 = (0 : Int32) by decide), if_neg (show ¬ nI 3 = (1 : Int32) by decide), if_neg (show ¬ nI 3 = (2 : Int32) by decide), if_pos (show nI 3 = (3 : Int32) by decide), if_neg (show ¬ nI 3 = (0 : Int32) by decide), if_neg (show ¬ nI 3 = (1 : Int32) by decide), if_neg (show ¬ nI 3 = (2 : Int32) by decide), if_pos (show nI 3 = (3 : Int32) by decide), p_differentWords hS.1 hx f3.2.2.2.2 (by omega), ob1_some, q_different hS.1 hM hx (by omega), ob1_some]
          exact ⟨_, _, _, _, _, _, _, _, _, _, _, _, _, _, _, _, _, _, _, _, _, _, _, _, _, _, _, _, _, _, _, _, _, _, rfl, rfl, ⟨A, H, m, T, b, L, hS, Or.inr ⟨f2, f3⟩, hH, hB, hP, hM, hK, hB2, hE, hW, rfl, rfl⟩, OU_v⟩
        · obtain ⟨W2', C2', E2', G2', Y2', qco', qpl', qcu', r1, r2⟩ := q_realTime (W := W') (C := C') (E := E') (G := G') (cos := qco) (pl := qpl) (Y := Y') (cut0 := qcu) hS.1 hM (s := bg (tbl A) c) (by omega)
          rw [if_neg (show ¬ nI 4 = (0 : Int32) by decide), if_neg (show ¬ nI 4 = (1 : Int32) by decide), if_neg (show ¬ nI 4 = (2 : Int32) by decide), if_neg (show ¬ nI 4 = (3 : Int32) by decide), if_pos (show nI 4 = (4 : Int32) by decide), if_neg (show ¬ nI 4 = (0 : Int32) by decide), if_neg (show ¬ nI 4 = (1 : Int32) by decide), if_neg (show ¬ nI 4 = (2 : Int32) by decide), if_neg (show ¬ nI 4 = (3 : Int32) by decide), p_realTime hS.1 hS.2.1 hS.2.2.1 f3.2.1.2 (by omega), ob1_some, ob9_s r1]
          exact ⟨_, _, _, _, _, _, _, _, _, _, _, _, _, _, _, _, _, _, _, _, _, _, _, _, _, _, _, _, _, _, _, _, _, _, rfl, rfl, ⟨A, H, m, T, b, L, hS, Or.inr ⟨f2, f3⟩, hH, hB, hP, hM, hK, hB2, hE, hW, rfl, rfl⟩, OU_v⟩
      · have hno : ∀ k : Nat, k ≤ 4 → ¬ x1 = nI k := by
          intro k hk e
          subst e
          have : (nI k).toInt = k := nI_toInt (by omega)
          omega
        rw [if_neg (show ¬ x1 = (0 : Int32) from hno 0 (by omega)), if_neg (show ¬ x1 = (1 : Int32) from hno 1 (by omega)), if_neg (show ¬ x1 = (2 : Int32) from hno 2 (by omega)), if_neg (show ¬ x1 = (3 : Int32) from hno 3 (by omega)), if_neg (show ¬ x1 = (4 : Int32) from hno 4 (by omega)), bI_0 cc, if_pos z00, if_neg (show ¬ (3 : Int32) ≤ 0 by decide)]
        exact ⟨_, _, _, _, _, _, _, _, _, _, _, _, _, _, _, _, _, _, _, _, _, _, _, _, _, _, _, _, _, _, _, _, _, _, rfl, rfl, ⟨A, H, m, T, b, L, hS, Or.inr ⟨f2, f3⟩, hH, hB, hP, hM, hK, hB2, hE, hW, rfl, rfl⟩, OU_3⟩
    · have e : noc A x0 = nI 2 := noc_2 hx (by omega)
      rw [e, h2, ob1_some, xoq_l, if_neg (show ¬ nI 2 = (0 : Int32) by decide), if_neg (show ¬ nI 2 ≤ (0 : Int32) by decide)]
      exact ⟨_, _, _, _, _, _, _, _, _, _, _, _, _, _, _, _, _, _, _, _, _, _, _, _, _, _, _, _, _, _, _, _, _, _, rfl, rfl, ⟨A, H, m, T, b, L, hS, Or.inr ⟨f2, f3⟩, hH, hB, hP, hM, hK, hB2, hE, hW, rfl, rfl⟩, OU_2⟩
end
