/-! ===== versions, undo, load ===== -/
section
variable {A : Nat → Nat} {sc : Int32} {wc : Int32} {ord : Nat → Int32} {dur : Nat → Int32} {pau : Nat → Int32} {siz : Nat → Int32} {wor : Nat → Int32} {nam : Nat → Int64} {ns : Int32} {wi : Nat → Int32} {le : Nat → Int32} {re : Nat → Int32} {ex : Int32} {kn : Int32} {kt : Int32} {kr : Nat → Int32} {ks : Nat → Int32} {kd : Nat → Int32} {set : Nat → Int32} {stl : Int32} {cc : Int32} {bw : Int32} {dn : Int32} {lea : Int32} {mos : Int32} {chg : Nat → Int32} {fir : Nat → Int32} {cat : Nat → Int32} {sta : Nat → Int32} {bc : Int32} {bcn : Int32} {pl : Nat → Int32} {tim : Nat → Int32} {spd : Nat → Int32} {cnt : Nat → Int32} {hsz : Int32} {hol : Int32} {HI : Nat → gq_SH} {bl : Int32} {text : Nat → Int32} {ea : Int32} {pn : Int32} {pb : Nat → Int32} {a : Nat → Int64} {km : Int32} {kp : Nat → Int64} {bn : Int32} {buf : Nat → Int32} {qe : Int32} {wn : Int32} {wb : Nat → Int32} {tc : Int32} {tl : Int32} {wrt : Nat → Int32} {cuc : Nat → Int32} {las : Nat → Int32} {lef : Nat → Int32} {rig : Nat → Int32} {cos : Nat → Int32} {cut : Nat → Int32} {th : Int32} {W : Nat → Int32} {C : Nat → Int32} {E : Nat → Int32} {G : Nat → Int32} {Y : Nat → Int64} {qco : Nat → Int32} {qpl : Nat → Int32} {qcu : Nat → Int32}
theorem c_keep (h : REL sc wc ord dur pau siz wor nam ns wi le re ex kn kt kr ks kd set stl cc bw dn lea mos chg fir cat sta bc bcn pl tim spd cnt hsz hol HI bl text ea pn pb a km kp bn buf qe wn wb tc tl) : ∃ res r stl' ex' kn' kt' kr' ks' kd' hsz' hol' HI' km' th' a' kp', F_X10_keep stl sc wc ord dur pau siz wor nam ns wi le re ex kn kt kr ks kd set hsz hol HI = some (res, stl', ex', kn', kt', kr', ks', kd', hsz', hol', HI') ∧ F_X11_keep km th a kp = some (r, km', th', a', kp') ∧ REL sc wc ord dur pau siz wor nam ns wi le re ex' kn' kt' kr' ks' kd' set stl' cc bw dn lea mos chg fir cat sta bc bcn pl tim spd cnt hsz' hol' HI' bl text ea pn pb a' km' kp' bn buf qe wn wb tc tl ∧ th' = nI 0 ∧ r = res := by
  obtain ⟨A, H, m, T, b, L, hS, hC, hH, hB, hP, hM, hK, hB2, hE, hW, hc1, hc2⟩ := id h
  have hn := hS.1.n
  obtain ⟨hsz', hol', HI', f1, f2⟩ := p_begin hS.1 hS.2.1 hS.2.2.1 hS.2.2.2.1 hS.2.2.2.2 hH (stl := stl)
  obtain ⟨kp', f3, f4⟩ := q_keeps hM hH.1 hK
  obtain ⟨r', s', d', f5, f6⟩ := p_takeVersion (ex := ex) (n := kn) (tot := kt) (rws_ := kr) (sts := ks) (drs := kd) hS.1 hS.2.1
  obtain ⟨a', f7, f8⟩ := q_keepLoop (km := nI (hpm m)) (th := (0 : Int32)) (kp := kp') hS.1 hM
  have f7 : wh (fun k q => S_X11_keep_33 (nI (hpm m)) (0 : Int32) kp' k q.1 q.2) wF ((0 : Int32), vp_updL (vp_updL a 409 (lN 1)) 410 (lN (A 6))) = some a' := f7
  have hm1 : F_X11_many (vp_updL a 409 (lN 1)) = some (nI (A 6)) := q_many (A := uA A 409 1) hM.u
  have hV2 := kp_VA hS.1
  have hm2 : F_X11_many a' = some (nI (A 6)) := by
    have := q_many f8
    rw [kp_n (by omega)] at this
    exact this
  have hsp : sp (kpA A) (A 6) = sp A (A 6) := sp_con _ (fun s hs => kp_n (by omega))
  have hs2 := q_spoken hV2 f8 (s := A 6) (by rw [kp_n (by omega)]; exact Nat.le_refl _)
  rw [hsp] at hs2
  unfold F_X10_keep F_X11_keep
  rw [f1, ob4_some, f5, ob6_some, f3, ob2_some, show (409 : Int32) = nI 409 from rfl, show (410 : Int32) = nI 410 from rfl, gi_n (by omega) (by omega), nI_clamp (by omega), show (1 : Int64) = lN 1 from rfl, hm1, ob1_some, gi_n (by omega) (by omega), nI_clamp (by omega), nI_l (by omega), ob1_s f7, hm2, ob1_some, hs2, ob1_some]
  have hu : ∀ j, (j < 409 ∨ 475 ≤ j) → kpA A j = A j := fun j hj => kp_n hj
  exact ⟨_, _, _, _, _, _, _, _, _, _, _, _, _, _, _, _, rfl, rfl, ⟨kpA A, _, _, T, b, L, ⟨hV2, TR.congr hS.1 (hu 6 (by omega)) (hu 7 (by omega)) (fun j h1 h2 => hu j (by omega)) (fun j h1 h2 => hu j (by omega)) hS.2.1, QR.congr hS.1 (hu 8 (by omega)) (fun j h1 h2 => hu j (by omega)) hS.2.2.1, f6, SR.congr (fun j h1 => hu j (by omega)) hS.2.2.2.2⟩, Or.inl rfl, f2, hB, hP, f8, f4, hB2, hE, hW, hc1, hc2⟩, rfl, rfl⟩
theorem c_undo (h : REL sc wc ord dur pau siz wor nam ns wi le re ex kn kt kr ks kd set stl cc bw dn lea mos chg fir cat sta bc bcn pl tim spd cnt hsz hol HI bl text ea pn pb a km kp bn buf qe wn wb tc tl) : ∃ res r stl' sc' wc' ord' dur' pau' siz' wor' nam' ns' wi' le' re' ex' kn' kt' kr' ks' kd' set' hsz' km' th' a', F_X10_undo stl sc wc ord dur pau siz wor nam ns wi le re ex kn kt kr ks kd set hsz hol HI = some (res, stl', sc', wc', ord', dur', pau', siz', wor', nam', ns', wi', le', re', ex', kn', kt', kr', ks', kd', set', hsz') ∧ F_X11_undo km th a kp = some (r, km', th', a') ∧ REL sc' wc' ord' dur' pau' siz' wor' nam' ns' wi' le' re' ex' kn' kt' kr' ks' kd' set' stl' cc bw dn lea mos chg fir cat sta bc bcn pl tim spd cnt hsz' hol HI bl text ea pn pb a' km' kp bn buf qe wn wb tc tl ∧ OU [(1,1)] res th' r := by
  obtain ⟨A, H, m, T, b, L, hS, hC, hH, hB, hP, hM, hK, hB2, hE, hW, hc1, hc2⟩ := id h
  have hm8 := hH.1
  have e1 := hH.2.1
  have e2 := hK.1
  unfold F_X10_undo F_X11_undo F_X11_undo_b13
  by_cases c : m = 0
  · rw [if_pos (show hsz = (0 : Int32) by rw [e1, c]; rfl), if_pos (show km = (0 : Int32) by rw [e2, c]; rfl), if_neg (show ¬ (1 : Int32) ≤ 0 by decide)]
    exact ⟨_, _, _, _, _, _, _, _, _, _, _, _, _, _, _, _, _, _, _, _, _, _, _, _, _, _, rfl, rfl, h, OU_1⟩
  · have hne : ¬ nI m = (0 : Int32) := fun h => c ((nI_eq (b := 0) (by omega) (by omega)).mp h)
    obtain ⟨S', f1, f2⟩ := p_bringBack (S := (sc, wc, ord, dur, pau, siz, wor, nam, ns, wi, le, re, ex, kn, kt, kr, ks, kd, set)) hH (by omega)
    obtain ⟨sc', wc', ord', dur', pau', siz', wor', nam', ns', wi', le', re', ex', kn', kt', kr', ks', kd', set'⟩ := S'
    obtain ⟨a', f3, f4⟩ := q_undoLoop (H := H) (m := m - 1) (km := km) (th := (0 : Int32)) (kp := kp) (a := a) (by omega) (hK.2 (m - 1) (by omega))
    have f3 : wh (fun k q => S_X11_undo_37 (nI (m - 1)) (0 : Int32) kp k q.1 q.2) wF ((0 : Int32), a) = some a' := f3
    have f1 : F_X1_bringBack hsz hol sc wc ord dur pau siz wor nam ns wi le re ex kn kt kr ks kd set HI = some (nI (m - 1), sc', wc', ord', dur', pau', siz', wor', nam', ns', wi', le', re', ex', kn', kt', kr', ks', kd', set') := f1
    obtain ⟨-, -, o, -, -, hi⟩ := id hH
    have hV2 := (hi (m - 1) (by omega)).1
    have e3 : km - (1 : Int32) = nI (m - 1) := by rw [e2]; exact pk_sub (b := 1) (by omega)
    rw [if_neg (show ¬ hsz = (0 : Int32) by rw [e1]; exact hne), if_neg (show ¬ km = (0 : Int32) by rw [e2]; exact hne), if_pos (show (0 : Int32) ≤ 0 by decide), ob20_s f1, e3, ob1_s f3]
    exact ⟨_, _, _, _, _, _, _, _, _, _, _, _, _, _, _, _, _, _, _, _, _, _, _, _, _, _, rfl, rfl, ⟨H (m - 1), H, m - 1, T, b, L, ⟨hV2, f2.1, f2.2.1, f2.2.2.1, f2.2.2.2⟩, Or.inl rfl, hH.pop, hB, hP, f4, hK.pop, hB2, hE, hW, hc1, hc2⟩, OU_v⟩
theorem c_load {x : Int32} {rec_ : Int32} {ren : Int32} {rat : Int32} {rsc : Int32} {rwc : Int32} {rord : Nat → Int32} {rdur : Nat → Int32} {rpau : Nat → Int32} {rsiz : Nat → Int32} {rwor : Nat → Int32} {rnam : Nat → Int64} {rns : Int32} {rwi : Nat → Int32} {rle : Nat → Int32} {rre : Nat → Int32} {rex : Int32} {rkn : Int32} {rkt : Int32} {rkr : Nat → Int32} {rks : Nat → Int32} {rkd : Nat → Int32} {rset : Nat → Int32} {qsz : Int32} {qat : Int32} {qbe : Int32} {qkd : Int32} {qwr : Int32} {qwa : Int32} {qfr : Nat → Int64} {qnu : Int64} (h : REL sc wc ord dur pau siz wor nam ns wi le re ex kn kt kr ks kd set stl cc bw dn lea mos chg fir cat sta bc bcn pl tim spd cnt hsz hol HI bl text ea pn pb a km kp bn buf qe wn wb tc tl) : ∃ res r stl' sc' wc' ord' dur' pau' siz' wor' nam' ns' wi' le' re' ex' kn' kt' kr' ks' kd' set' hsz' hol' bl' rec_' ea' ren' rat' rsc' rwc' rord' rdur' rpau' rsiz' rwor' rnam' rns' rwi' rle' rre' rex' rset' HI' km' th' bn' qsz' qat' qbe' qkd' qwr' qwa' qe' qnu' a' qfr' kp', F_X10_load x stl sc wc ord dur pau siz wor nam ns wi le re ex kn kt kr ks kd set hsz hol bl rec_ ea ren rat rsc rwc rord rdur rpau rsiz rwor rnam rns rwi rle rre rex rkn rkt rkr rks rkd rset text HI = some (res, stl', sc', wc', ord', dur', pau', siz', wor', nam', ns', wi', le', re', ex', kn', kt', kr', ks', kd', set', hsz', hol', bl', rec_', ea', ren', rat', rsc', rwc', rord', rdur', rpau', rsiz', rwor', rnam', rns', rwi', rle', rre', rex', rset', HI') ∧ F_X11_load x km th bn qsz qat qbe qkd qwr qwa qe qnu a qfr kp buf = some (r, km', th', bn', qsz', qat', qbe', qkd', qwr', qwa', qe', qnu', a', qfr', kp') ∧ REL sc' wc' ord' dur' pau' siz' wor' nam' ns' wi' le' re' ex' kn' kt' kr' ks' kd' set' stl' cc bw dn lea mos chg fir cat sta bc bcn pl tim spd cnt hsz' hol' HI' bl' text ea' pn pb a' km' kp' bn' buf qe' wn wb tc tl ∧ OU [(2,1)] res th' r := by
  obtain ⟨A, H, m, T, b, L, hS, hC, hH, hB, hP, hM, hK, hB2, hE, hW, hc1, hc2⟩ := id h
  obtain ⟨e1, t1⟩ := hB
  obtain ⟨e2, t2⟩ := hB2
  have hb := t1.1
  have hx0 := q_load (A := A) (n := 0) (th := th) (sz := qsz) (at0 := qat) (be0 := qbe) (kd0 := qkd) (wr0 := qwr) (wa0 := qwa) (ea0 := qe) (num0 := qnu) (fr0 := qfr) hM hH.1 hK t2 x
  rw [← e2] at hx0
  unfold F_X10_load F_X10_load_b15
  by_cases c : x < (0 : Int32)
  · obtain ⟨at_, be, kd_, wr, wa, num, fr, f1⟩ := hx0.1 (fun h9 => by have := (rq_lt x).mp c; omega)
    rw [if_pos c, f1]
    exact ⟨_, _, _, _, _, _, _, _, _, _, _, _, _, _, _, _, _, _, _, _, _, _, _, _, _, _, _, _, _, _, _, _, _, _, _, _, _, _, _, _, _, _, _, _, _, _, _, _, _, _, _, _, _, _, _, _, _, _, rfl, rfl, h, OU_1⟩
  · rw [if_neg c]
    have c0 : ¬ x.toInt < 0 := fun h9 => c ((rq_lt x).mpr h9)
    obtain ⟨n, hx, hn1, hn2⟩ := rq_at (x := x) (by omega)
    by_cases c2 : n ≤ b
    · have c3 : x ≤ bl := by rw [hx, e1]; exact nI_le c2 (by omega)
      rw [if_pos c3]
      have hx1 := q_load (A := A) (n := n) (th := th) (sz := qsz) (at0 := qat) (be0 := qbe) (kd0 := qkd) (wr0 := qwr) (wa0 := qwa) (ea0 := qe) (num0 := qnu) (fr0 := qfr) hM hH.1 hK t2 x
      rw [← e2] at hx1
      have hx2 := hx1.2 hx c2
      obtain ⟨ec, ea', at_, sc1, wc1, ord1, dur1, pau1, siz1, wor1, nam1, ns1, wi1, le1, re1, set1, f1, f2, f3⟩ := p_readShow (n := n) t1 c2 (ec0 := rec_) (ea0 := ea) (end0 := ren) (at0 := rat) (sc0 := rsc) (wc0 := rwc) (ns0 := rns) (ex0 := rex) (ord0 := rord) (dur0 := rdur) (pau0 := rpau) (siz0 := rsiz) (wor0 := rwor) (wi0 := rwi) (le0 := rle) (re0 := rre) (set0 := rset) (nam0 := rnam)
      rw [← e1, ← hx] at f1
      rw [f1, ob19_s rfl]
      have tz : ∀ tt, TX T 0 tt := fun tt => ⟨by omega, fun i hi => absurd hi (Nat.not_lt_zero i)⟩
      by_cases c4 : (prgA T n).1 = none
      · obtain ⟨qat', qbe', qkd', qwr', qwa', qnu', a', qfr', kp', g1, g2, g3⟩ := hx2.1 c4
        rw [c4] at f2
        have f2a : ec = nI 0 := f2.1
        have f2b : ea' = -nI 1 := f2.2
        obtain ⟨f4, f5, f6⟩ := f3 c4
        have hVP := prgA_VP (T := T) (n := n) (by omega) c4
        have h409 := hVP.2.2.2.1
        obtain ⟨hsz', hol', HI', i1, i2⟩ := p_begin hS.1 hS.2.1 hS.2.2.1 hS.2.2.2.1 hS.2.2.2.2 hH (stl := stl)
        have hKR : KR (prgA T n).2 (nI 0) rkn rkt rkr rks rkd := by
          unfold KR
          rw [h409]
          exact ⟨rfl, fun h => absurd h (by omega)⟩
        obtain ⟨S', j1, j2⟩ := p_copy (S := (sc1, wc1, ord1, dur1, pau1, siz1, wor1, nam1, ns1, wi1, le1, re1, nI 0, rkn, rkt, rkr, rks, rkd, set1)) (S0 := (sc, wc, ord, dur, pau, siz, wor, nam, ns, wi, le, re, ex, kn, kt, kr, ks, kd, set)) hVP.1 ⟨f4, f5, hKR, f6⟩
        obtain ⟨sc', wc', ord', dur', pau', siz', wor', nam', ns', wi', le', re', ex', kn', kt', kr', ks', kd', set'⟩ := S'
        have j1 : F_X6_copyFrom sc wc ord dur pau siz wor nam ns wi le re ex kn kt kr ks kd set sc1 wc1 ord1 dur1 pau1 siz1 wor1 nam1 ns1 wi1 le1 re1 (nI 0) rkn rkt rkr rks rkd set1 = some (sc', wc', ord', dur', pau', siz', wor', nam', ns', wi', le', re', ex', kn', kt', kr', ks', kd', set') := j1
        have hj6 : sc' = nI ((prgA T n).2 6) := j2.1.1
        rw [if_pos (show ec = (0 : Int32) from f2a), i1, ob4_some, j1, ob19_s rfl, g1]
        exact ⟨_, _, _, _, _, _, _, _, _, _, _, _, _, _, _, _, _, _, _, _, _, _, _, _, _, _, _, _, _, _, _, _, _, _, _, _, _, _, _, _, _, _, _, _, _, _, _, _, _, _, _, _, _, _, _, _, _, _, rfl, rfl, ⟨(prgA T n).2, _, _, T, 0, L, ⟨hVP.1, j2.1, j2.2.1, j2.2.2.1, j2.2.2.2⟩, Or.inl rfl, i2, ⟨rfl, tz _⟩, hP, g2, g3, ⟨rfl, tz _⟩, f2b.symm, hW, hc1, hc2⟩, rfl, hj6.symm⟩
      · obtain ⟨e, he⟩ : ∃ e, (prgA T n).1 = some e := by
          cases hx : (prgA T n).1 with
          | none => exact absurd hx c4
          | some e => exact ⟨e, rfl⟩
        obtain ⟨qat', qbe', qkd', qwr', qwa', qnu', qfr', g1⟩ := hx2.2 e he
        rw [he] at f2
        obtain ⟨f2a, f2b, f2c, f2d, f2e⟩ := f2
        have hne : ¬ ec = (0 : Int32) := by rw [f2d]; exact ng_0 e.1 (by omega) f2a
        rw [if_neg hne, g1]
        exact ⟨_, _, _, _, _, _, _, _, _, _, _, _, _, _, _, _, _, _, _, _, _, _, _, _, _, _, _, _, _, _, _, _, _, _, _, _, _, _, _, _, _, _, _, _, _, _, _, _, _, _, _, _, _, _, _, _, _, _, rfl, rfl, ⟨A, H, m, T, 0, L, hS, hC, hH, ⟨rfl, tz _⟩, hP, hM, hK, ⟨rfl, tz _⟩, f2e.symm, hW, hc1, hc2⟩, rfl, f2d.symm⟩
    · have c3 : ¬ x ≤ bl := by rw [hx, e1]; exact fun h9 => c2 ((nI_leI hn2 (by omega)).mp h9)
      obtain ⟨at_, be, kd_, wr, wa, num, fr, f1⟩ := hx0.1 (fun h9 => by omega)
      rw [if_neg c3, f1]
      exact ⟨_, _, _, _, _, _, _, _, _, _, _, _, _, _, _, _, _, _, _, _, _, _, _, _, _, _, _, _, _, _, _, _, _, _, _, _, _, _, _, _, _, _, _, _, _, _, _, _, _, _, _, _, _, _, _, _, _, _, rfl, rfl, h, OU_1⟩
end
