section
variable {A : Nat → Nat} {sc : Int32} {wc : Int32} {ord : Nat → Int32} {dur : Nat → Int32} {pau : Nat → Int32} {siz : Nat → Int32} {wor : Nat → Int32} {nam : Nat → Int64} {ns : Int32} {wi : Nat → Int32} {le : Nat → Int32} {re : Nat → Int32} {ex : Int32} {kn : Int32} {kt : Int32} {kr : Nat → Int32} {ks : Nat → Int32} {kd : Nat → Int32} {set : Nat → Int32} {stl : Int32} {cc : Int32} {bw : Int32} {dn : Int32} {lea : Int32} {mos : Int32} {chg : Nat → Int32} {fir : Nat → Int32} {cat : Nat → Int32} {sta : Nat → Int32} {bc : Int32} {bcn : Int32} {pl : Nat → Int32} {tim : Nat → Int32} {spd : Nat → Int32} {cnt : Nat → Int32} {hsz : Int32} {hol : Int32} {HI : Nat → gq_SH} {bl : Int32} {text : Nat → Int32} {ea : Int32} {pn : Int32} {pb : Nat → Int32} {a : Nat → Int64} {km : Int32} {kp : Nat → Int64} {bn : Int32} {buf : Nat → Int32} {qe : Int32} {wn : Int32} {wb : Nat → Int32} {tc : Int32} {tl : Int32} {wrt : Nat → Int32} {cuc : Nat → Int32} {las : Nat → Int32} {lef : Nat → Int32} {rig : Nat → Int32} {cos : Nat → Int32} {cut : Nat → Int32} {th : Int32} {W : Nat → Int32} {C : Nat → Int32} {E : Nat → Int32} {G : Nat → Int32} {Y : Nat → Int64} {qco : Nat → Int32} {qpl : Nat → Int32} {qcu : Nat → Int32}
theorem sh31 : ∀ j, j < 32 → (((nI j).toUInt32 &&& Int32.toUInt32 31).toBitVec % 32).toNat = j := by decide
theorem r_Cuts (x : Int32) {n : Nat} {c : Int32} (hc : c = nI n) (h : n ≤ 32) : (∃ s, s < 2 ^ (n - 1) ∧ s < 2 ^ 31 ∧ x = nI s ∧ F_X10_requireCuts x c = some (.inr ())) ∨ (¬ (0 ≤ x.toInt ∧ x.toInt < ((2 ^ (n - 1) : Nat) : Int)) ∧ F_X10_requireCuts x c = some (.inl 2)) := by
  subst hc
  unfold F_X10_requireCuts
  rw [p_boundaryCount h, ob1_some]
  by_cases c : x < (0 : Int32)
  · rw [if_pos c]
    exact Or.inr ⟨fun h9 => by have := (rq_lt x).mp c; omega, rfl⟩
  · rw [if_neg c]
    have c0 : ¬ x.toInt < 0 := fun h9 => c ((rq_lt x).mpr h9)
    obtain ⟨s, e1, e2, e3⟩ := rq_at (x := x) (by omega)
    subst e1
    have hp : 0 < 2 ^ (n - 1) := Nat.pow_pos (by omega)
    have hd : s / 2 ^ (n - 1) = 0 ↔ s < 2 ^ (n - 1) := by
      rw [Nat.div_eq_zero_iff]
      omega
    have hle : s / 2 ^ (n - 1) ≤ s := Nat.div_le_self _ _
    rw [pk_ushrN (n := s) (by omega) (nI (n - 1)) (n - 1) (sh31 _ (by omega))]
    by_cases c2 : s < 2 ^ (n - 1)
    · rw [if_pos (show nI (s / 2 ^ (n - 1)) = (0 : Int32) by rw [hd.mpr c2]; rfl)]
      exact Or.inl ⟨s, c2, e3, rfl, rfl⟩
    · rw [if_neg (show ¬ nI (s / 2 ^ (n - 1)) = (0 : Int32) from fun h9 => c2 (hd.mp ((nI_eq (b := 0) (by omega) (by omega)).mp h9)))]
      exact Or.inr ⟨fun h9 => c2 (by omega), rfl⟩
theorem q_areCuts (hV : VA A) (hM : MR A a) (x : Int32) : F_X11_areCuts x a = some (bI (0 ≤ x.toInt ∧ x.toInt < ((2 ^ (A 6 - 1) : Nat) : Int))) := by
  have hn := hV.n
  have hp : 0 < 2 ^ (A 6 - 1) := Nat.pow_pos (by omega)
  have hp2 : 2 ^ (A 6 - 1) ≤ 2 ^ 31 := Nat.pow_le_pow_right (by omega) (by omega)
  have hi := q_isInN x (lo := 0) (hi := 2 ^ (A 6 - 1) - 1) (by omega) (by omega)
  have key : ∀ st, st = lN (2 ^ (A 6 - 1) - 1) → F_X11_areCuts_b25 st (0 : Int64) x.toInt64 = some (bI (0 ≤ x.toInt ∧ x.toInt < ((2 ^ (A 6 - 1) : Nat) : Int))) := by
    intro st hst
    subst hst
    unfold F_X11_areCuts_b25
    rw [show (0 : Int64) = lN 0 from rfl, hi, ob1_some]
    rw [show bI (((0 : Nat) : Int) ≤ x.toInt ∧ x.toInt ≤ ((2 ^ (A 6 - 1) - 1 : Nat) : Int)) = bI (0 ≤ x.toInt ∧ x.toInt < ((2 ^ (A 6 - 1) : Nat) : Int)) from bI_c (by omega)]
    by_cases c : 0 ≤ x.toInt ∧ x.toInt < ((2 ^ (A 6 - 1) : Nat) : Int)
    · rw [bI_1 c, gb_1]
    · rw [bI_0 c, gb_0]
  unfold F_X11_areCuts
  rw [q_many hM, ob1_some]
  by_cases c : 2 ≤ A 6
  · rw [if_pos (show (2 : Int32) ≤ nI (A 6) from nI_le (a := 2) c (by omega)), ob1_some, show nI (A 6) - (1 : Int32) = nI (A 6 - 1) from pk_sub (b := 1) (by omega), show (1 : Int64) = lN 1 from rfl, wb_shl 1 (by omega), Nat.one_mul, lN_sub (by omega)]
    exact key _ rfl
  · rw [if_neg (show ¬ (2 : Int32) ≤ nI (A 6) from fun h9 => c ((nI_leI (a := 2) (by omega) (by omega)).mp h9))]
    refine key _ ?_
    rw [show A 6 - 1 = 0 by omega]
    rfl
theorem c_worthOf {x0 : Int32} (h : REL sc wc ord dur pau siz wor nam ns wi le re ex kn kt kr ks kd set stl cc bw dn lea mos chg fir cat sta bc bcn pl tim spd cnt hsz hol HI bl text ea pn pb a km kp bn buf qe wn wb tc tl) : ∃ res r stl' cc' bw' dn' lea' mos' chg' fir' cat' wrt' cuc' las' sta' lef' rig' bc' bcn' pl' cos' tim' cut' spd' cnt' th', F_X10_worthOf x0 stl sc ord dur pau siz wor ns wi re set cc bw dn lea mos chg fir cat wrt cuc las sta lef rig bc bcn pl cos tim cut spd cnt = some (res, stl', cc', bw', dn', lea', mos', chg', fir', cat', wrt', cuc', las', sta', lef', rig', bc', bcn', pl', cos', tim', cut', spd', cnt') ∧ F_X11_worthOf x0 th a = some (r, th') ∧ REL sc wc ord dur pau siz wor nam ns wi le re ex kn kt kr ks kd set stl' cc' bw' dn' lea' mos' chg' fir' cat' sta' bc' bcn' pl' tim' spd' cnt' hsz hol HI bl text ea pn pb a km kp bn buf qe wn wb tc tl ∧ OU [(2,1)] res th' r := by
  obtain ⟨A, H, m, T, b, L, hS, hC, hH, hB, hP, hM, hK, hB2, hE, hW, hc1, hc2⟩ := id h
  subst hc1; subst hc2
  have hn := hS.1.n
  have hsc := hS.2.1.1
  unfold F_X10_worthOf F_X11_worthOf F_X11_worthOf_b14
  rw [q_areCuts hS.1 hM, ob1_some]
  rcases r_Cuts x0 hsc hn with ⟨s, h1, h0, h2, h3⟩ | ⟨h1, h2⟩
  · subst h2
    have ht : (nI s).toInt = s := nI_toInt h0
    obtain ⟨stl', cc', bw', dn', lea', mos', chg', fir', cat', wrt', cuc', las', sta', lef', rig', bc', bcn', pl', cos', tim', cut', spd', cnt', f1, f2, f3⟩ := p_refresh hS.1 hS.2.1 hS.2.2.1 hS.2.2.2.2 hC (wrt := wrt) (cuc := cuc) (las := las) (lef := lef) (rig := rig) (cos := cos) (cut := cut)
    have g1 := p_worthOfCuts hS.1 f3.1.2.2.2.1 (c := s) h0
    rw [← f3.1.1] at g1
    have g2 : wh (fun k q => S_X11_worthOf_30 (nI s) (0 : Int32) a k q.1 q.2) wF ((0 : Int32), (0 : Int32)) = some (wcs A s (A 6 - 1)) := q_worthOfLoop hS.1 hM h0
    rw [h3, ob1_some, xoq_r, ob23_s f1, show (3 : Int32) = nI 3 from rfl, gi_n (by omega) (by omega), nI_clamp (by omega), hS.2.2.2.2.at (k := 3) (by omega), g1, ob1_some, bI_1 (by rw [ht]; omega), if_neg n10, if_pos l00, ob1_s g2]
    exact ⟨_, _, _, _, _, _, _, _, _, _, _, _, _, _, _, _, _, _, _, _, _, _, _, _, _, _, rfl, rfl, ⟨A, H, m, T, b, L, hS, Or.inr ⟨f2, f3⟩, hH, hB, hP, hM, hK, hB2, hE, hW, rfl, rfl⟩, OU_v⟩
  · rw [h2, ob1_some, xoq_l, bI_0 h1, if_pos z00, if_neg l10]
    exact ⟨_, _, _, _, _, _, _, _, _, _, _, _, _, _, _, _, _, _, _, _, _, _, _, _, _, _, rfl, rfl, h, OU_1⟩
end
