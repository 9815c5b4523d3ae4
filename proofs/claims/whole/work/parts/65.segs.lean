/-! ===== segments leave and move ===== -/
section
variable {A : Nat → Nat} {sc : Int32} {wc : Int32} {ord : Nat → Int32} {dur : Nat → Int32} {pau : Nat → Int32} {siz : Nat → Int32} {wor : Nat → Int32} {nam : Nat → Int64} {ns : Int32} {wi : Nat → Int32} {le : Nat → Int32} {re : Nat → Int32} {ex : Int32} {kn : Int32} {kt : Int32} {kr : Nat → Int32} {ks : Nat → Int32} {kd : Nat → Int32} {set : Nat → Int32} {stl : Int32} {cc : Int32} {bw : Int32} {dn : Int32} {lea : Int32} {mos : Int32} {chg : Nat → Int32} {fir : Nat → Int32} {cat : Nat → Int32} {sta : Nat → Int32} {bc : Int32} {bcn : Int32} {pl : Nat → Int32} {tim : Nat → Int32} {spd : Nat → Int32} {cnt : Nat → Int32} {hsz : Int32} {hol : Int32} {HI : Nat → gq_SH} {bl : Int32} {text : Nat → Int32} {ea : Int32} {pn : Int32} {pb : Nat → Int32} {a : Nat → Int64} {km : Int32} {kp : Nat → Int64} {bn : Int32} {buf : Nat → Int32} {qe : Int32} {wn : Int32} {wb : Nat → Int32} {tc : Int32} {tl : Int32} {wrt : Nat → Int32} {cuc : Nat → Int32} {las : Nat → Int32} {lef : Nat → Int32} {rig : Nat → Int32} {cos : Nat → Int32} {cut : Nat → Int32} {th : Int32} {W : Nat → Int32} {C : Nat → Int32} {E : Nat → Int32} {G : Nat → Int32} {Y : Nat → Int64} {qco : Nat → Int32} {qpl : Nat → Int32} {qcu : Nat → Int32}
theorem rm_n {A : Nat → Nat} {s j : Nat} (hV : VA A) (hs : s < A 6) (hj : j < 10 ∨ 394 ≤ j) (h6 : j ≠ 6) : rmA A s j = A j := by
  have hn := hV.n
  unfold rmA
  rw [if_neg (by omega), if_neg (by omega), if_neg (by omega)]
theorem rm_VA (hV : VA A) {s : Nat} (hs : s < A 6) : VA (rmA A s) := by
  have hn := hV.n
  refine rws_VA hV (rm_rws hV hs) (by omega) (fun i j _ _ h => ?_)
  split at h <;> split at h <;> omega
theorem mv_VA (hV : VA A) {s t : Nat} (hs : s < A 6) (ht : t < A 6) : VA (mvA A s t) := rws_VA hV (mv_rws hV hs ht) hV.n (fun _ _ _ _ h => mvp_inj h)
theorem c_removeSegment {x : Int32} (h : REL sc wc ord dur pau siz wor nam ns wi le re ex kn kt kr ks kd set stl cc bw dn lea mos chg fir cat sta bc bcn pl tim spd cnt hsz hol HI bl text ea pn pb a km kp bn buf qe wn wb tc tl) : ∃ res r stl' sc' ord' hsz' hol' HI' km' th' a' kp', F_X10_removeSegment x stl sc wc ord dur pau siz wor nam ns wi le re ex kn kt kr ks kd set hsz hol HI = some (res, stl', sc', ord', hsz', hol', HI') ∧ F_X11_removeSegment x km th a kp = some (r, km', th', a', kp') ∧ REL sc' wc ord' dur pau siz wor nam ns wi le re ex kn kt kr ks kd set stl' cc bw dn lea mos chg fir cat sta bc bcn pl tim spd cnt hsz' hol' HI' bl text ea pn pb a' km' kp' bn buf qe wn wb tc tl ∧ OU [(3,1)] res th' r := by
  obtain ⟨A, H, m, T, b, L, hS, hC, hH, hB, hP, hM, hK, hB2, hE, hW, hc1, hc2⟩ := id h
  have hn := hS.1.n
  have hsc := hS.2.1.1
  unfold F_X10_removeSegment F_X11_removeSegment F_X11_removeSegment_b14
  rw [q_isSegm hS.1 hM, ob1_some]
  rcases r_Seg x hsc (by omega) with ⟨s, h1, h2, h3⟩ | ⟨h1, h2⟩
  · subst h2
    have ht : (nI s).toInt = s := nI_toInt (by omega)
    obtain ⟨hsz', hol', HI', f1, f2⟩ := p_begin hS.1 hS.2.1 hS.2.2.1 hS.2.2.2.1 hS.2.2.2.2 hH (stl := stl)
    obtain ⟨kp', f3, f4⟩ := q_keeps hM hH.1 hK
    obtain ⟨ord', g1, g2⟩ := p_dropSegment hS.1 hS.2.1 h1
    obtain ⟨a1, a2, g3, g4, g5⟩ := q_removeLoop (km := nI (hpm m)) (th := (0 : Int32)) (kp := kp') hS.1 hM h1
    have e1 : nI (A 6) - (1 : Int32) = nI (A 6 - 1) := pk_sub (b := 1) (by omega)
    have e2 : (10 : Int32) + ((12 : Int32) * nI s) = nI (10 + 12 * s) := by
      rw [show (10 : Int32) = nI 10 from rfl, show (12 : Int32) = nI 12 from rfl, pk_mul, nI_add]
    have e3 : (10 : Int32) + ((12 : Int32) * nI (A 6 - 1)) = nI (10 + 12 * (A 6 - 1)) := by
      rw [show (10 : Int32) = nI 10 from rfl, show (12 : Int32) = nI 12 from rfl, pk_mul, nI_add]
    rw [h3, ob1_some, xoq_r, f1, ob4_some, g1, ob2_some, bI_1 (by rw [ht]; omega), if_neg (show ¬ nI 1 = (0 : Int32) by decide), if_pos (show (0 : Int32) ≤ 0 by decide), f3, ob2_some, q_many hM, ob1_some, e1, e2, ob1_s g3, e3, ob1_s g4, show (6 : Int32) = nI 6 from rfl, gi_n (by omega) (by omega), nI_clamp (by omega), nI_l (by omega)]
    have hu : ∀ j, (j < 10 ∨ 394 ≤ j) → j ≠ 6 → rmA A s j = A j := fun j hj h6 => rm_n hS.1 h1 hj h6
    exact ⟨_, _, _, _, _, _, _, _, _, _, _, _, rfl, rfl, ⟨rmA A s, _, _, T, b, L, ⟨rm_VA hS.1 h1, g2, QR.congr hS.1 (hu 8 (by omega) (by omega)) (fun j h1 h2 => hu j (by omega) (by omega)) hS.2.2.1, KR.congr hS.1 (fun j h1 h2 => hu j (by omega) (by omega)) hS.2.2.2.1, SR.congr (fun j h1 => hu j (by omega) (by omega)) hS.2.2.2.2⟩, Or.inl rfl, f2, hB, hP, g5, f4, hB2, hE, hW, hc1, hc2⟩, OU_v⟩
  · rw [h2, ob1_some, xoq_l, bI_0 h1, if_pos (show nI 0 = (0 : Int32) from rfl), if_neg (show ¬ (1 : Int32) ≤ 0 by decide)]
    exact ⟨_, _, _, _, _, _, _, _, _, _, _, _, rfl, rfl, h, OU_1⟩
theorem q_mvLoops (hV : VA A) (hM : MR A a) {s t : Nat} (hs : s < A 6) (ht : t < A 6) : ∃ a1 a2, wh (fun k q => S_X11_moveSegment_40 (nI s) (nI t) km th kp k q.1 q.2) wF (nI s, a) = some a1 ∧ wh (fun k q => S_X11_moveSegment_61 (nI t) km th kp k q.1 q.2) wF (nI s, a1) = some a2 ∧ MR (mvA A s t) a2 := by
  have hn := hV.n
  obtain ⟨N, hN⟩ : ∃ N, wF = N + 1 := ⟨wF - 1, by unfold wF; omega⟩
  by_cases c : s ≤ t
  · obtain ⟨a1, f1, f2⟩ := q_moveUp (km := km) (th := th) (kp := kp) hV hM hs ht c
    refine ⟨a1, a1, f1, ?_, f2⟩
    rw [hN]
    show S_X11_moveSegment_61 (nI t) km th kp _ (nI s) a1 = _
    unfold S_X11_moveSegment_61
    rw [if_pos (nI_le c (by omega))]
  · obtain ⟨a1, f1, f2⟩ := q_moveDn (km := km) (th := th) (kp := kp) hV hM hs ht (by omega)
    refine ⟨a, a1, ?_, f1, f2⟩
    rw [hN]
    show S_X11_moveSegment_40 (nI s) (nI t) km th kp _ (nI s) a = _
    unfold S_X11_moveSegment_40
    rw [if_pos (nI_le (by omega) (by omega))]
theorem c_moveSegment {x y : Int32} (h : REL sc wc ord dur pau siz wor nam ns wi le re ex kn kt kr ks kd set stl cc bw dn lea mos chg fir cat sta bc bcn pl tim spd cnt hsz hol HI bl text ea pn pb a km kp bn buf qe wn wb tc tl) : ∃ res r stl' ord' hsz' hol' HI' km' th' a' kp', F_X10_moveSegment x y stl sc wc ord dur pau siz wor nam ns wi le re ex kn kt kr ks kd set hsz hol HI = some (res, stl', ord', hsz', hol', HI') ∧ F_X11_moveSegment x y km th a kp = some (r, km', th', a', kp') ∧ REL sc wc ord' dur pau siz wor nam ns wi le re ex kn kt kr ks kd set stl' cc bw dn lea mos chg fir cat sta bc bcn pl tim spd cnt hsz' hol' HI' bl text ea pn pb a' km' kp' bn buf qe wn wb tc tl ∧ OU [(3,1)] res th' r := by
  obtain ⟨A, H, m, T, b, L, hS, hC, hH, hB, hP, hM, hK, hB2, hE, hW, hc1, hc2⟩ := id h
  have hn := hS.1.n
  have hsc := hS.2.1.1
  unfold F_X10_moveSegment F_X11_moveSegment F_X11_moveSegment_b21 F_X11_moveSegment_b22
  rw [q_isSegm hS.1 hM, ob1_some, q_isSegm hS.1 hM]
  rcases r_Seg x hsc (by omega) with ⟨s, h1, h2, h3⟩ | ⟨h1, h2⟩
  · subst h2
    have ht : (nI s).toInt = s := nI_toInt (by omega)
    rw [h3, ob1_some, xoq_r, bI_1 (by rw [ht]; omega), if_neg (show ¬ nI 1 = (0 : Int32) by decide), ob1_some]
    rcases r_Seg y hsc (by omega) with ⟨t, h4, h5, h6⟩ | ⟨h4, h5⟩
    · subst h5
      have ht2 : (nI t).toInt = t := nI_toInt (by omega)
      obtain ⟨hsz', hol', HI', f1, f2⟩ := p_begin hS.1 hS.2.1 hS.2.2.1 hS.2.2.2.1 hS.2.2.2.2 hH (stl := stl)
      obtain ⟨kp', f3, f4⟩ := q_keeps hM hH.1 hK
      obtain ⟨ord', g1, g2⟩ := p_shiftSegment hS.1 hS.2.1 h1 h4
      obtain ⟨a1, a2, g3, g4, g5⟩ := q_mvLoops (km := nI (hpm m)) (th := (0 : Int32)) (kp := kp') hS.1 hM h1 h4
      have hV2 := mv_VA hS.1 h1 h4
      have hu : ∀ j, (j < 10 ∨ 394 ≤ j) → mvA A s t j = A j := fun j hj => mv_n hj
      have h66 := hu 6 (by omega)
      have i1 := p_startOf hV2 g2 (s := t) (by omega)
      have i2 := q_spoken hV2 g5 (s := t) (by omega)
      rw [h6, ob1_some, xoq_r, f1, ob4_some, g1, ob1_some, i1, ob1_some, bI_1 (by rw [ht2]; omega), if_neg (show ¬ nI 1 = (0 : Int32) by decide), if_pos (show (0 : Int32) ≤ 0 by decide), f3, ob2_some, ob1_s g3, ob1_s g4, i2, ob1_some]
      exact ⟨_, _, _, _, _, _, _, _, _, _, _, rfl, rfl, ⟨mvA A s t, _, _, T, b, L, ⟨hV2, g2, QR.congr hS.1 (hu 8 (by omega)) (fun j h1 h2 => hu j (by omega)) hS.2.2.1, KR.congr hS.1 (fun j h1 h2 => hu j (by omega)) hS.2.2.2.1, SR.congr (fun j h1 => hu j (by omega)) hS.2.2.2.2⟩, Or.inl rfl, f2, hB, hP, g5, f4, hB2, hE, hW, hc1, hc2⟩, OU_v⟩
    · rw [h5, ob1_some, xoq_l, bI_0 h4, if_pos (show nI 0 = (0 : Int32) from rfl), if_neg (show ¬ (1 : Int32) ≤ 0 by decide)]
      exact ⟨_, _, _, _, _, _, _, _, _, _, _, rfl, rfl, h, OU_1⟩
  · rw [h2, ob1_some, xoq_l, bI_0 h1, if_pos (show nI 0 = (0 : Int32) from rfl), if_neg (show ¬ (1 : Int32) ≤ 0 by decide)]
    exact ⟨_, _, _, _, _, _, _, _, _, _, _, rfl, rfl, h, OU_1⟩
end
