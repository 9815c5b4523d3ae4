/-! ===== a segment, by the reference; its statements ===== -/
section
variable {T : Nat → Nat} {n : Nat} {text : Nat → Int32} {A : Nat → Nat} {a : Nat → Int64}
theorem sem_err {X : Option (Nat × Nat) × (Nat → Nat) × Nat} {e : Nat × Nat} (h : X.1 = some e) : (sem T n X).1 = some e := by
  unfold sem
  dsimp only
  rw [h]; rfl
theorem q_b92F {its : Int32} {fr : Nat → Int64} {o : Option (Nat × Nat)} {at_ be kd wr wa : Int32} {num : Int64} (hE : RE o wr wa) (ho : o ≠ none) : F_X11_readsSegment_b92 its (0 : Int32) (nI n) at_ be kd wr wa num fr text = some (at_, be, kd, wr, wa, num, fr) := by
  have h0 := hE.no ho
  have key : wh (fun k (q : Int32 × Int32 × Int32 × Int32 × Int32 × Int32 × Int64 × (Nat → Int64)) => S_X11_readsSegment_93 its (nI n) text k q.1 q.2.1 q.2.2.1 q.2.2.2.1 q.2.2.2.2.1 q.2.2.2.2.2.1 q.2.2.2.2.2.2.1 q.2.2.2.2.2.2.2) wF ((0 : Int32), at_, be, kd, wr, wa, num, fr) = some (.inr (at_, be, kd, wr, wa, num, fr)) := by
    refine whf (fun _ => ((0 : Int32), at_, be, kd, wr, wa, num, fr)) 0 0 rfl (Nat.le_refl _) (by omega) (fun j _ hj k => absurd hj (Nat.not_lt_zero j)) (fun k => ?_)
    show S_X11_readsSegment_93 its (nI n) text k 0 at_ be kd wr wa num fr = _
    unfold S_X11_readsSegment_93
    exact if_pos rfl
  unfold F_X11_readsSegment_b92
  rw [key, ob1_some]
  show ob1 (F_X11_isSign (59 : Int32) at_ kd wr text) _ = _
  have s0 : F_X11_isSign (59 : Int32) at_ kd wr text = some (nI 0) := by
    unfold F_X11_isSign
    rw [if_neg h0]; rfl
  have m0 : F_X11_must (nI 0) (nI n) at_ be kd wr wa num text = some (at_, be, kd, wr, wa, num) := by
    unfold F_X11_must F_X11_fails F_X11_must_b10
    rw [if_pos (show nI 0 = (0 : Int32) from rfl), if_neg h0, ob2_some, if_neg h0]
  rw [s0, ob1_some, m0, ob6_some, if_neg h0]
theorem q_segF (hT : TX T n text) (hM : MR A a) {q p0 : Nat} {at_ be kd wa : Int32} {num : Int64} (hK : TKR T n p0 at_ be kd num) (hq : rn (iss T n) n p0 = q) (h6 : A 6 = 32) : RS T n (some (4, q), A, q) (F_X11_readsSegment (nI n) at_ be kd (nI 0) wa num a text) := by
  have hn := hT.1
  obtain ⟨hp, k1, k2, k3, k4⟩ := hK
  have hqb := rn_b (P := iss T n) hp
  rw [hq] at k1 k2 k3 k4 hqb
  subst k1; subst k2; subst k3
  have hne : ¬ (-4 : Int32) = (0 : Int32) := by decide
  have hE : RE (some (4, q)) (-nI 4) (nI q) := ⟨by omega, by omega, by show q ≤ 900; omega, rfl, rfl⟩
  have e6 : (a (6 : Int32).toNatClampNeg).toInt32 = nI (A 6) := by
    have : a (6 : Int32).toNatClampNeg = lN (A 6) := hM 6 (by omega)
    rw [this, lN_i]
  unfold F_X11_readsSegment
  rw [e6, show ∀ {β : Type} (x : Option β), gi (6 : Int32) 499 x = x from fun x => gi_n (j := 6) (by omega) (by omega), if_pos (show nI (A 6) = (32 : Int32) by rw [h6]; rfl)]
  unfold F_X11_fails
  rw [if_pos (show nI 0 = (0 : Int32) from rfl), ob2_some]
  unfold F_X11_readsSegment_b21
  have w0 : F_X11_isWord 0 (nI q) (nI (tbh T n q)) (nI (tkd T n q)) (-4 : Int32) text = some (nI 0) := by
    unfold F_X11_isWord
    rw [if_neg hne]; rfl
  have m0 : F_X11_must (nI 0) (nI n) (nI q) (nI (tbh T n q)) (nI (tkd T n q)) (-4 : Int32) (nI q) num text = some (nI q, nI (tbh T n q), nI (tkd T n q), -4, nI q, num) := by
    unfold F_X11_must F_X11_fails F_X11_must_b10
    rw [if_pos (show nI 0 = (0 : Int32) from rfl), if_neg hne, ob2_some, if_neg hne]
  rw [w0, ob1_some, m0, ob6_some, if_neg hne]
  exact ⟨_, _, _, _, _, _, _, rfl, hE, fun h => (by cases h)⟩
theorem q_segS (hT : TX T n text) (hM : MR A a) (h : VP A) {q p0 : Nat} {at_ be kd wa : Int32} {num : Int64} (hK : TKR T n p0 at_ be kd num) (hq : rn (iss T n) n p0 = q) (hw : wrd T n q = 19623) (h6 : A 6 ≠ 32) : RS T n (sem T n (sg1 T n A (rn (isl T n) n q))) (F_X11_readsSegment (nI n) at_ be kd (nI 0) wa num a text) := by
  have hn := hT.1
  have hV := h.1
  have hn6 := hV.n
  obtain ⟨hp, k1, k2, k3, k4⟩ := hK
  have hqb := rn_b (P := iss T n) hp
  rw [hq] at k1 k2 k3 k4 hqb
  subst k1; subst k2; subst k3
  have hl := (wrd_ok hqb.2 (by omega : wrd T n q ≠ 0)).2.2.2
  obtain ⟨at1, be1, kd1, num1, f1, f2⟩ := q_mustW (wa := wa) (num := num) hT hqb.2 hl
  have hb := rn_b (P := isl T n) hqb.2
  generalize rn (isl T n) n q = p at *
  have e6 : (a (6 : Int32).toNatClampNeg).toInt32 = nI (A 6) := by
    have : a (6 : Int32).toNatClampNeg = lN (A 6) := hM 6 (by omega)
    rw [this, lN_i]
  unfold F_X11_readsSegment
  rw [e6, show ∀ {β : Type} (x : Option β), gi (6 : Int32) 499 x = x from fun x => gi_n (j := 6) (by omega) (by omega), if_neg (show ¬ nI (A 6) = (32 : Int32) from fun h => h6 ((nI_eq (b := 32) (by omega) (by omega)).mp h))]
  unfold F_X11_readsSegment_b21
  rw [q_isSeg hT hqb.2, ob1_some, bI_1 hw, ob6_e2 f1, if_pos (show nI 0 = (0 : Int32) from rfl)]
  obtain ⟨r1, at2, be2, kd2, wr2, wa2, num2, g1, g2, g3, g4⟩ := q_takesO (o := none) (wr := nI 0) (wa := wa) (lo := 1) (hi := 999) hT rfl (fun _ => f2) (by omega) (by omega)
  have g1 : F_X11_takes (1 : Int32) (999 : Int32) (nI n) at1 be1 kd1 (nI 0) wa num1 text = some (r1, at2, be2, kd2, wr2, wa2, num2) := g1
  rw [ob7_s g1]
  have i0 : ((10 : Int32) + (12 : Int32) * nI (A 6)) = nI (10 + 12 * A 6) := by
    show nI 10 + nI 12 * nI (A 6) = _
    rw [pk_mul, nI_add]
  have i1 : nI (10 + 12 * A 6) + (0 : Int32) = nI (10 + 12 * A 6 + 0) := nI_add (10 + 12 * A 6) 0
  have i2 : nI (10 + 12 * A 6) + (1 : Int32) = nI (10 + 12 * A 6 + 1) := nI_add (10 + 12 * A 6) 1
  rw [i0, i1, i2, gi_n (by omega) (by omega)]
  obtain ⟨r2, at3, be3, kd3, wr3, wa3, num3, j1, j2, j3, j4⟩ := q_takesO (lo := 0) (hi := 99) (p := nend T n p) hT g2 (fun h => (g3 h).2) (by omega) (by omega)
  have j1 : F_X11_takes (0 : Int32) (99 : Int32) (nI n) at2 be2 kd2 wr2 wa2 num2 text = some (r2, at3, be3, kd3, wr3, wa3, num3) := j1
  rw [ob7_s j1, gi_n (by omega) (by omega), nI_clamp (by omega), nI_clamp (by omega)]
  have hgo : erj (erj none (nrc T n 1 999 p) (rn (iss T n) n p)) (nrc T n 0 99 (nend T n p)) (rn (iss T n) n (nend T n p)) = sgo T n p := rfl
  rw [hgo] at j2 j3 j4
  by_cases c : sgo T n p = none
  · have c1 := (erj_no c).1
    have h0 : wr3 = nI 0 := by rw [c] at j2; exact j2
    subst h0
    have v1 := nvl_b (T := T) (n := n) (p := p) (lo := 1) (hi := 999) (by omega)
    have v2 := nvl_b (T := T) (n := n) (p := nend T n p) (lo := 0) (hi := 99) (by omega)
    rw [if_pos (show nI 0 = (0 : Int32) from rfl), (g3 c1).1, (j3 c).1, nI_l (by omega), nI_l (by omega)]
    have hI := sg0_IP (T := T) (n := n) (p := p) h (by omega)
    have hM2 : MR (sg0 T n A p) (vp_updL (vp_updL a (10 + 12 * A 6 + 0) (lN (nvl T n 1 999 p))) (10 + 12 * A 6 + 1) (lN (nvl T n 0 99 (nend T n p)))) := hM.u.u
    have hs6 : sg0 T n A p 6 = A 6 := by
      unfold sg0
      rw [uA_n (by omega), uA_n (by omega)]
    have n1 := nend_b (T := T) hb.2
    have n2 := nend_b (T := T) n1.2
    have hX : sg1 T n A p = (orr (sgo T n p) (nml T n 9 (sg0 T n A p) (nend T n (nend T n p))).1, seA (nml T n 9 (sg0 T n A p) (nend T n (nend T n p))).2.1, (nml T n 9 (sg0 T n A p) (nend T n (nend T n p))).2.2) := rfl
    rw [hX, c]
    have hok := nml_ok (T := T) 9 _ _ hI n2.2 (by omega)
    obtain ⟨at4, be4, kd4, wr4, wa4, num4, fr4, hor⟩ := q_nameLoop (text := text) (R := nml T n 9 (sg0 T n A p) (nend T n (nend T n p))) hT (m0 := A 6) (by omega) wF 9 (nI 1, at3, be3, kd3, nI 0, wa3, num3, vp_updL (vp_updL a (10 + 12 * A 6 + 0) (lN (nvl T n 1 999 p))) (10 + 12 * A 6 + 1) (lN (nvl T n 0 99 (nend T n p)))) ⟨rfl, sg0 T n A p, nend T n (nend T n p), hI, hs6, (j3 c).2, hM2, Or.inl ⟨rfl, by omega, rfl⟩⟩ (by unfold wF; omega)
    generalize nml T n 9 (sg0 T n A p) (nend T n (nend T n p)) = R at hor hok ⊢
    unfold F_X11_readsSegment_b92
    rcases hor with ⟨e, o1, o2, o3⟩ | ⟨o1, o2, o3, o4, o5⟩
    · have o2' := o2
      rw [show (1 : Int32) = nI 1 from rfl, o2, ob1_some]
      have hs : (sem T n (orr none R.1, seA R.2.1, R.2.2)).1 = some e := sem_err (by show R.1 = _; exact o1)
      refine ⟨at4, be4, kd4, wr4, wa4, num4, fr4, rfl, by rw [hs]; exact o3, fun h => by rw [hs] at h; cases h⟩
    · subst o3
      have hok2 := hok.2 o1
      rw [show (1 : Int32) = nI 1 from rfl, o2, ob1_some]
      show RS T n _ (ob1 (F_X11_isSign (59 : Int32) at4 kd4 (nI 0) text) _)
      obtain ⟨b, at5, be5, kd5, wr5, wa5, num5, s1, s2, s3, s4⟩ := q_semiO (o := none) (wr := nI 0) (wa := wa4) (p := R.2.2) hT rfl (fun _ => o4)
      rw [s1, ob1_some, ob6_e2 s2]
      unfold RS sem
      dsimp only
      rw [show orr none R.1 = R.1 from rfl, o1]
      by_cases c2 : erj none (smc T n R.2.2) (rn (iss T n) n R.2.2) = none
      · have h0 : wr5 = nI 0 := by rw [c2] at s3; exact s3
        subst h0
        have b6 : R.2.1 6 = A 6 := by rw [hok2.2.2.2.2, hs6]
        have x9 : fr4 9 = lN (R.2.1 9) := o5 9 (by omega)
        have x6 : fr4 6 = lN (R.2.1 6) := o5 6 (by omega)
        have a11 : nI (10 + 12 * A 6) + (11 : Int32) = nI (10 + 12 * A 6 + 11) := nI_add (10 + 12 * A 6) 11
        have g9 : ∀ {β : Type} (x : Option β), gi (9 : Int32) 499 x = x := fun x => gi_n (j := 9) (by omega) (by omega)
        have g6 : ∀ {β : Type} (x : Option β), gi (6 : Int32) 499 x = x := fun x => gi_n (j := 6) (by omega) (by omega)
        rw [if_pos (show nI 0 = (0 : Int32) from rfl), a11, g9, gi_n (by omega) (by omega), g9, g9, g6, g6, nI_clamp (by omega), show (9 : Int32).toNatClampNeg = 9 from by decide, show (6 : Int32).toNatClampNeg = 6 from by decide, x9]
        refine ⟨_, _, _, _, _, _, _, rfl, s3, fun _ => ⟨s4 c2, ?_⟩⟩
        have y9 : vp_updL fr4 (10 + 12 * A 6 + 11) (lN (R.2.1 9)) 9 + (1 : Int64) = lN (R.2.1 9 + 1) := by
          rw [pk_uLn (by omega), x9]; exact lN_add _ 1
        rw [y9]
        have y6 : vp_updL (vp_updL fr4 (10 + 12 * A 6 + 11) (lN (R.2.1 9))) 9 (lN (R.2.1 9 + 1)) 6 + (1 : Int64) = lN (R.2.1 6 + 1) := by
          rw [pk_uLn (by omega), pk_uLn (by omega), x6]; exact lN_add _ 1
        rw [y6]
        unfold seA
        rw [b6]
        rw [b6] at y6
        exact o5.u.u.u
      · have h0 := s3.no c2
        rw [if_neg h0]
        exact ⟨_, _, _, _, _, _, _, rfl, s3, fun h => absurd h c2⟩
  · have h0 := j2.no c
    rw [if_neg h0, q_b92F j2 c]
    obtain ⟨e, he⟩ : ∃ e, sgo T n p = some e := by
      cases hx : sgo T n p with
      | none => exact absurd hx c
      | some e => exact ⟨e, rfl⟩
    have hs : (sem T n (sg1 T n A p)).1 = some e := sem_err (by show orr (sgo T n p) _ = _; rw [he]; rfl)
    rw [he] at j2
    exact ⟨_, _, _, _, _, _, _, rfl, by rw [hs]; exact j2, fun h => by rw [hs] at h; cases h⟩
end
