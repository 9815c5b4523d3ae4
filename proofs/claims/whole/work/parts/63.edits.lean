/-! ===== the calls that change the show, by both ===== -/
section
variable {A : Nat → Nat} {sc : Int32} {wc : Int32} {ord : Nat → Int32} {dur : Nat → Int32} {pau : Nat → Int32} {siz : Nat → Int32} {wor : Nat → Int32} {nam : Nat → Int64} {ns : Int32} {wi : Nat → Int32} {le : Nat → Int32} {re : Nat → Int32} {ex : Int32} {kn : Int32} {kt : Int32} {kr : Nat → Int32} {ks : Nat → Int32} {kd : Nat → Int32} {set : Nat → Int32} {stl : Int32} {cc : Int32} {bw : Int32} {dn : Int32} {lea : Int32} {mos : Int32} {chg : Nat → Int32} {fir : Nat → Int32} {cat : Nat → Int32} {sta : Nat → Int32} {bc : Int32} {bcn : Int32} {pl : Nat → Int32} {tim : Nat → Int32} {spd : Nat → Int32} {cnt : Nat → Int32} {hsz : Int32} {hol : Int32} {HI : Nat → gq_SH} {bl : Int32} {text : Nat → Int32} {ea : Int32} {pn : Int32} {pb : Nat → Int32} {a : Nat → Int64} {km : Int32} {kp : Nat → Int64} {bn : Int32} {buf : Nat → Int32} {qe : Int32} {wn : Int32} {wb : Nat → Int32} {tc : Int32} {tl : Int32} {wrt : Nat → Int32} {cuc : Nat → Int32} {las : Nat → Int32} {lef : Nat → Int32} {rig : Nat → Int32} {cos : Nat → Int32} {cut : Nat → Int32} {th : Int32} {W : Nat → Int32} {C : Nat → Int32} {E : Nat → Int32} {G : Nat → Int32} {Y : Nat → Int64} {qco : Nat → Int32} {qpl : Nat → Int32} {qcu : Nat → Int32}
theorem p_begin (hV : VA A) (hT : TR A sc wc ord dur pau siz wor nam) (hQ : QR A ns wi le re) (hK : KR A ex kn kt kr ks kd) (hS : SR A set) {H : Nat → Nat → Nat} {m : Nat} (hH : HR H m hsz hol HI) : ∃ hsz' hol' HI', F_X10_beginChange stl sc wc ord dur pau siz wor nam ns wi le re ex kn kt kr ks kd set hsz hol HI = some (nI 1, hsz', hol', HI') ∧ HR (hpu H m A) (hpm m) hsz' hol' HI' := by
  obtain ⟨sz', old', HI', f1, f2⟩ := p_remember (S := (sc, wc, ord, dur, pau, siz, wor, nam, ns, wi, le, re, ex, kn, kt, kr, ks, kd, set)) hV ⟨hT, hQ, hK, hS⟩ hH
  unfold F_X10_beginChange
  refine ⟨sz', old', HI', ?_, f2⟩
  exact ob3_s f1
theorem lo_hi {k : Nat} (h : k < 6) : gq_low k = nI (slo k) ∧ gq_high k = nI (shi k) ∧ F_X11_low (nI k) = some (nI (slo k)) ∧ F_X11_high (nI k) = some (nI (shi k)) ∧ slo k ≤ shi k ∧ shi k ≤ 9999 := by
  rcases (show k = 0 ∨ k = 1 ∨ k = 2 ∨ k = 3 ∨ k = 4 ∨ k = 5 by omega) with h | h | h | h | h | h <;> subst h <;> exact ⟨rfl, rfl, rfl, rfl, by decide, by decide⟩
theorem c_set {x y : Int32} (h : REL sc wc ord dur pau siz wor nam ns wi le re ex kn kt kr ks kd set stl cc bw dn lea mos chg fir cat sta bc bcn pl tim spd cnt hsz hol HI bl text ea pn pb a km kp bn buf qe wn wb tc tl) : ∃ res r stl' set' hsz' hol' HI' km' th' a' kp', F_X10_set x y stl sc wc ord dur pau siz wor nam ns wi le re ex kn kt kr ks kd set hsz hol HI = some (res, stl', set', hsz', hol', HI') ∧ F_X11_set x y km th a kp = some (r, km', th', a', kp') ∧ REL sc wc ord dur pau siz wor nam ns wi le re ex kn kt kr ks kd set' stl' cc bw dn lea mos chg fir cat sta bc bcn pl tim spd cnt hsz' hol' HI' bl text ea pn pb a' km' kp' bn buf qe wn wb tc tl ∧ OU [(3,1), (2,2)] res th' r := by
  obtain ⟨A, H, m, T, b, L, hS, hC, hH, hB, hP, hM, hK, hB2, hE, hW, hc1, hc2⟩ := id h
  have hi := q_isInN x (lo := 0) (hi := 5) (by omega) (by omega)
  unfold F_X10_set F_X11_set F_X11_set_b40
  rw [show (0 : Int64) = lN 0 from rfl, show (5 : Int64) = lN 5 from rfl, hi, ob1_some]
  rcases p_rqSet x with ⟨s, h1, h2, h3⟩ | ⟨h1, h2⟩
  · subst h2
    have ht : (nI s).toInt = s := nI_toInt (by omega)
    obtain ⟨l1, l2, l3, l4, l5, l6⟩ := lo_hi h1
    have hj := q_isInN y (lo := slo s) (hi := shi s) (by omega) (by omega)
    rw [h3, ob1_some, xoq_r, gi_n h1 (by omega), gi_n h1 (by omega), gi_n h1 (by omega), nI_clamp (by omega), bI_1 (by rw [ht]; omega), if_neg (show ¬ nI 1 = (0 : Int32) by decide), l1, l2, l3, ob1_some, l4, ob1_some, nI_l (by omega), nI_l (by omega), hj, ob1_some]
    rcases p_rqRange y (lo := slo s) (hi := shi s) (by omega) (by omega) with ⟨v, g1, g2, g3, g4⟩ | ⟨g1, g2⟩
    · subst g3
      have hv : (nI v).toInt = v := nI_toInt (by omega)
      obtain ⟨hsz', hol', HI', f1, f2⟩ := p_begin hS.1 hS.2.1 hS.2.2.1 hS.2.2.2.1 hS.2.2.2.2 hH (stl := stl)
      obtain ⟨kp', f3, f4⟩ := q_keeps hM hH.1 hK
      rw [g4, ob1_some, xoq_r, f1, ob4_some, gi_n h1 (by omega), bI_1 (by rw [hv]; omega), if_neg (show ¬ nI 1 = (0 : Int32) by decide), if_pos (show (0 : Int32) ≤ 0 by decide), f3, ob2_some, gi_n (by omega) (by omega), gi_n (by omega) (by omega), nI_l (by omega), hM.at (by omega), lN_i, hS.2.2.2.2.at h1]
      have hu : ∀ j, 6 ≤ j → uA A s v j = A j := fun j hj => uA_n (by omega)
      exact ⟨_, _, _, _, _, _, _, _, _, _, _, rfl, rfl, ⟨uA A s v, _, _, T, b, L, ⟨set_SHr hS.1 h1 ⟨g1, g2⟩, TR.congr hS.1 (hu 6 (by omega)) (hu 7 (by omega)) (fun j h1 h2 => hu j (by omega)) (fun j h1 h2 => hu j (by omega)) hS.2.1, QR.congr hS.1 (hu 8 (by omega)) (fun j h1 h2 => hu j (by omega)) hS.2.2.1, KR.congr hS.1 (fun j h1 h2 => hu j (by omega)) hS.2.2.2.1, set_SR hS.2.2.2.2⟩, Or.inl rfl, f2, hB, hP, hM.u, f4, hB2, hE, hW, hc1, hc2⟩, OU_v⟩
    · rw [g2, ob1_some, xoq_l, bI_0 g1, if_pos (show nI 0 = (0 : Int32) from rfl), if_neg (show ¬ (2 : Int32) ≤ 0 by decide)]
      exact ⟨_, _, _, _, _, _, _, _, _, _, _, rfl, rfl, h, OU_2⟩
  · rw [h2, ob1_some, xoq_l, bI_0 (fun h9 => h1 ⟨by omega, by omega⟩), if_pos (show nI 0 = (0 : Int32) from rfl), if_neg (show ¬ (1 : Int32) ≤ 0 by decide)]
    exact ⟨_, _, _, _, _, _, _, _, _, _, _, rfl, rfl, h, OU_1⟩
theorem q_puts (hV : VA A) (hM : MR A a) {H : Nat → Nat → Nat} {m : Nat} (hm : m ≤ 8) (hK : KK H m km kp) {s w v : Nat} (hs : 10 + 12 * s + w < 499) (hv : v < 2 ^ 31) : ∃ kp', F_X11_puts (nI s) (nI w) (nI v) km a kp = some (nI (oA A s w), nI (hpm m), vp_updL a (10 + 12 * s + w) (lN v), kp') ∧ KK (hpu H m A) (hpm m) (nI (hpm m)) kp' := by
  obtain ⟨kp', f3, f4⟩ := q_keeps hM hm hK
  unfold F_X11_puts
  have e : ((10 : Int32) + ((12 : Int32) * nI s)) + nI w = nI (10 + 12 * s + w) := by
    rw [show (10 : Int32) = nI 10 from rfl, show (12 : Int32) = nI 12 from rfl, pk_mul, nI_add, nI_add]
  rw [f3, ob2_some, q_of hM hs, ob1_some, e, gi_n hs (by omega), nI_clamp (by omega), nI_l hv]
  exact ⟨_, rfl, f4⟩
theorem p_chDur (hV : VA A) (hT : TR A sc wc ord dur pau siz wor nam) {s : Nat} (hs : s < A 6) {y : Int32} : F_X9_changeDuration (nI s) y ord dur = some (upd dur (oA A s 11) y) := by
  have hn := hV.n
  have h1 := hT.2.2.1 s hs
  have h2 := hV.seg hs
  unfold F_X9_changeDuration
  rw [gi_n (by omega) (by omega), nI_clamp (by omega), h1.1, gi_n (by omega) (by omega), nI_clamp (by omega)]
theorem p_chPau (hV : VA A) (hT : TR A sc wc ord dur pau siz wor nam) {s : Nat} (hs : s < A 6) {y : Int32} : F_X9_changePause (nI s) y ord pau = some (upd pau (oA A s 11) y) := by
  have hn := hV.n
  have h1 := hT.2.2.1 s hs
  have h2 := hV.seg hs
  unfold F_X9_changePause
  rw [gi_n (by omega) (by omega), nI_clamp (by omega), h1.1, gi_n (by omega) (by omega), nI_clamp (by omega)]
end
