/-! ===== the statements' bodies ===== -/
section
variable {T : Nat → Nat} {n : Nat} {text : Nat → Int32} {A : Nat → Nat} {a : Nat → Int64}
theorem ob6_e2 {α0 α1 α2 α3 α4 α5 β : Type} {x : Option (α0 × α1 × α2 × α3 × α4 × α5)} {f : α0 → α1 → α2 → α3 → α4 → α5 → Option β} {a0 a1 a2 a3 a4 a5} (h : x = some (a0, a1, a2, a3, a4, a5)) : ob6 x f = f a0 a1 a2 a3 a4 a5 := by subst h; rfl
/-- what a statement leaves behind, in the reference -/
def RS (T : Nat → Nat) (n : Nat) (X : Option (Nat × Nat) × (Nat → Nat) × Nat) (o : Option (Int32 × Int32 × Int32 × Int32 × Int32 × Int64 × (Nat → Int64))) : Prop :=
  ∃ at_ be kd wr wa num fr, o = some (at_, be, kd, wr, wa, num, fr) ∧ RE X.1 wr wa ∧ (X.1 = none → TKR T n X.2.2 at_ be kd num ∧ MR X.2.1 fr)
theorem q_setting (hT : TX T n text) (hM : MR A a) (h : VP A) {q p0 : Nat} {at_ be kd wa : Int32} {num : Int64} (hK : TKR T n p0 at_ be kd num) (hq : rn (iss T n) n p0 = q) (hw : wrd T n q = 19636) : RS T n (sem T n (se1 T n A (rn (isl T n) n q))) (F_X11_readsSetting (nI n) at_ be kd (nI 0) wa num a text) := by
  have hn := hT.1
  obtain ⟨hp, k1, k2, k3, k4⟩ := hK
  have hqb := rn_b (P := iss T n) hp
  rw [hq] at k1 k2 k3 k4 hqb
  subst k1; subst k2; subst k3
  have hl := (wrd_ok hqb.2 (by omega : wrd T n q ≠ 0)).2.2.2
  obtain ⟨at1, be1, kd1, num1, f1, f2⟩ := q_mustW (wa := wa) (num := num) hT hqb.2 hl
  have hb := rn_b (P := isl T n) hqb.2
  generalize rn (isl T n) n q = p at *
  unfold F_X11_readsSetting
  rw [q_isSet hT hqb.2, ob1_some, bI_1 hw, ob6_e2 f1]
  have v1 := nvl_b (T := T) (n := n) (p := p) (lo := 0) (hi := 5) (by omega)
  obtain ⟨r1, at2, be2, kd2, wr2, wa2, num2, g1, g2, g3, g4⟩ := q_takesO (o := none) (wr := nI 0) (wa := wa) (lo := 0) (hi := 5) hT rfl (fun _ => f2) (by omega) (by omega)
  have g1 : F_X11_takes (0 : Int32) (5 : Int32) (nI n) at1 be1 kd1 (nI 0) wa num1 text = some (r1, at2, be2, kd2, wr2, wa2, num2) := g1
  rw [ob7_s g1]
  -- the number of the setting, right or not
  obtain ⟨kk, hk1, hk2, hk3⟩ : ∃ kk, r1 = nI kk ∧ kk ≤ 5 ∧ (erj none (nrc T n 0 5 p) (rn (iss T n) n p) = none → kk = nvl T n 0 5 p) := by
    by_cases c : erj none (nrc T n 0 5 p) (rn (iss T n) n p) = none
    · exact ⟨nvl T n 0 5 p, (g3 c).1, v1.2, fun _ => rfl⟩
    · exact ⟨0, g4 c, by omega, fun h => absurd h c⟩
  subst hk1
  have e1 : F_X11_low (nI kk) = some (nI (slo kk)) := by
    unfold F_X11_low slo
    by_cases c : kk < 3
    · rw [if_pos c, if_neg (show ¬ (3 : Int32) ≤ nI kk from fun h => by have := (nI_leI (a := 3) (by omega) (by omega)).mp h; omega)]; rfl
    · rw [if_neg c, if_pos (show (3 : Int32) ≤ nI kk from nI_le (a := 3) (by omega) (by omega))]; rfl
  have e2 : F_X11_high (nI kk) = some (nI (shi kk)) := by
    rcases (show kk = 0 ∨ kk = 1 ∨ kk = 2 ∨ kk = 3 ∨ kk = 4 ∨ kk = 5 by omega) with h | h | h | h | h | h <;> subst h <;> rfl
  have hsl : slo kk ≤ shi kk ∧ shi kk ≤ 9999 := by
    unfold slo shi; split <;> split <;> (try split) <;> (try split) <;> omega
  rw [e1, ob1_some, e2, ob1_some]
  have v2 := nvl_b (T := T) (n := n) (p := nend T n p) hsl.1
  obtain ⟨r2, at3, be3, kd3, wr3, wa3, num3, i1, i2, i3, i4⟩ := q_takesO (lo := slo kk) (hi := shi kk) (p := nend T n p) hT g2 (fun h => (g3 h).2) hsl.1 hsl.2
  rw [ob7_s i1]
  obtain ⟨b, at4, be4, kd4, wr4, wa4, num4, j1, j2, j3, j4⟩ := q_semiO (p := nend T n (nend T n p)) hT i2 (fun h => (i3 h).2)
  rw [j1, ob1_some, ob6_e2 j2]
  -- what it says
  have hX1 : (se1 T n A p).1 = erj (erj none (nrc T n 0 5 p) (rn (iss T n) n p)) (nrc T n (slo kk) (shi kk) (nend T n p)) (rn (iss T n) n (nend T n p)) := by
    unfold se1
    dsimp only
    by_cases c : erj none (nrc T n 0 5 p) (rn (iss T n) n p) = none
    · rw [hk3 c]
    · cases hc : erj none (nrc T n 0 5 p) (rn (iss T n) n p) with
      | none => exact absurd hc c
      | some e => rfl
  rw [← hX1] at j3 j4 i3
  unfold RS sem
  by_cases c : erj (se1 T n A p).1 (smc T n (nend T n (nend T n p))) (rn (iss T n) n (nend T n (nend T n p))) = none
  · have c1 := (erj_no c).1
    have c2 := c1
    rw [hX1] at c2
    have c3 := (erj_no c2).1
    have c4 := hk3 c3
    have i5 := i3 c1
    have h0 : wr4 = nI 0 := by rw [c] at j3; exact j3
    subst h0
    rw [if_pos (show nI 0 = (0 : Int32) from rfl), gi_n (by omega) (by omega), nI_clamp (by omega), i5.1, nI_l (by omega)]
    refine ⟨_, _, _, _, _, _, _, rfl, j3, fun _ => ⟨j4 c, ?_⟩⟩
    show MR (uA A (nvl T n 0 5 p) (nvl T n (slo (nvl T n 0 5 p)) (shi (nvl T n 0 5 p)) (nend T n p))) _
    rw [← c4]
    exact hM.u
  · have h0 := j3.no c
    rw [if_neg h0]
    exact ⟨_, _, _, _, _, _, _, rfl, j3, fun h => absurd h c⟩
theorem q_slotS (hT : TX T n text) (hM : MR A a) (h : VP A) {q p0 : Nat} {at_ be kd wa : Int32} {num : Int64} (hK : TKR T n p0 at_ be kd num) (hq : rn (iss T n) n p0 = q) (hw : wrd T n q = 635380) (h8 : A 8 ≠ 5) : RS T n (sem T n (sl1 T n A (rn (isl T n) n q))) (F_X11_readsSlot (nI n) at_ be kd (nI 0) wa num a text) := by
  have hn := hT.1
  have hV := h.1
  have hl8 := hV.nl
  obtain ⟨hp, k1, k2, k3, k4⟩ := hK
  have hqb := rn_b (P := iss T n) hp
  rw [hq] at k1 k2 k3 k4 hqb
  subst k1; subst k2; subst k3
  have hl := (wrd_ok hqb.2 (by omega : wrd T n q ≠ 0)).2.2.2
  obtain ⟨at1, be1, kd1, num1, f1, f2⟩ := q_mustW (wa := wa) (num := num) hT hqb.2 hl
  have hb := rn_b (P := isl T n) hqb.2
  generalize rn (isl T n) n q = p at *
  unfold F_X11_readsSlot
  have e8 : a (8 : Int32).toNatClampNeg = lN (A 8) := hM 8 (by omega)
  rw [e8, show ∀ {β : Type} (x : Option β), gi (8 : Int32) 499 x = x from fun x => gi_n (j := 8) (by omega) (by omega), if_neg (show ¬ lg_cmp (lN (A 8)) (5 : Int64) = (0 : Int32) from fun h => by
    have h9 : lN (A 8) = lN 5 := (lc_eq (lN (A 8)) (lN 5)).mp h
    exact h8 ((lN_eq (by omega) (by omega)).mp h9))]
  unfold F_X11_readsSlot_b20
  rw [q_isSlot0 hT hqb.2, ob1_some, bI_1 hw, ob6_e2 f1]
  obtain ⟨r1, at2, be2, kd2, wr2, wa2, num2, g1, g2, g3, g4⟩ := q_takesO (o := none) (wr := nI 0) (wa := wa) (lo := 0) (hi := 9999) hT rfl (fun _ => f2) (by omega) (by omega)
  have g1 : F_X11_takes (0 : Int32) (9999 : Int32) (nI n) at1 be1 kd1 (nI 0) wa num1 text = some (r1, at2, be2, kd2, wr2, wa2, num2) := g1
  rw [ob7_s g1]
  obtain ⟨r2, at3, be3, kd3, wr3, wa3, num3, i1, i2, i3, i4⟩ := q_takesO (lo := 1) (hi := 300) (p := nend T n p) hT g2 (fun h => (g3 h).2) (by omega) (by omega)
  have i1 : F_X11_takes (1 : Int32) (300 : Int32) (nI n) at2 be2 kd2 wr2 wa2 num2 text = some (r2, at3, be3, kd3, wr3, wa3, num3) := i1
  rw [ob7_s i1]
  obtain ⟨r3, at4, be4, kd4, wr4, wa4, num4, l1, l2, l3, l4⟩ := q_takesO (lo := 0) (hi := 999) (p := nend T n (nend T n p)) hT i2 (fun h => (i3 h).2) (by omega) (by omega)
  have l1 : F_X11_takes (0 : Int32) (999 : Int32) (nI n) at3 be3 kd3 wr3 wa3 num3 text = some (r3, at4, be4, kd4, wr4, wa4, num4) := l1
  rw [ob7_s l1]
  obtain ⟨b, at5, be5, kd5, wr5, wa5, num5, j1, j2, j3, j4⟩ := q_semiO (p := nend T n (nend T n (nend T n p))) hT l2 (fun h => (l3 h).2)
  rw [j1, ob1_some, ob6_e2 j2]
  unfold RS sem
  have hX1 : (sl1 T n A p).1 = slo3 T n p := rfl
  by_cases c : erj (slo3 T n p) (smc T n (nend T n (nend T n (nend T n p)))) (rn (iss T n) n (nend T n (nend T n (nend T n p)))) = none
  · have c3 := (erj_no c).1
    have c2 := (erj_no c3).1
    have c1 := (erj_no c2).1
    have h0 : wr5 = nI 0 := by
      have : RE (erj (slo3 T n p) (smc T n (nend T n (nend T n (nend T n p)))) (rn (iss T n) n (nend T n (nend T n (nend T n p))))) wr5 wa5 := j3
      rw [c] at this; exact this
    subst h0
    have v1 := nvl_b (T := T) (n := n) (p := p) (lo := 0) (hi := 9999) (by omega)
    have v2 := nvl_b (T := T) (n := n) (p := nend T n p) (lo := 1) (hi := 300) (by omega)
    have v3 := nvl_b (T := T) (n := n) (p := nend T n (nend T n p)) (lo := 0) (hi := 999) (by omega)
    obtain ⟨a', m1, m2⟩ := q_putsSlot hV hM (w := nvl T n 0 9999 p) (l := nvl T n 1 300 (nend T n p)) (r := nvl T n 0 999 (nend T n (nend T n p))) (by omega) v1.2 v2.2 v3.2
    rw [if_pos (show nI 0 = (0 : Int32) from rfl), (g3 c1).1, (i3 c2).1, (l3 c3).1, m1, ob2_some]
    exact ⟨_, _, _, _, _, _, _, rfl, j3, fun _ => ⟨j4 c, m2⟩⟩
  · have h0 := j3.no c
    rw [if_neg h0]
    exact ⟨_, _, _, _, _, _, _, rfl, j3, fun h => absurd h c⟩
theorem q_slotF (hT : TX T n text) (hM : MR A a) (h : VP A) {q p0 : Nat} {at_ be kd wa : Int32} {num : Int64} (hK : TKR T n p0 at_ be kd num) (hq : rn (iss T n) n p0 = q) (h8 : A 8 = 5) : RS T n (some (4, q), A, q) (F_X11_readsSlot (nI n) at_ be kd (nI 0) wa num a text) := by
  have hn := hT.1
  obtain ⟨hp, k1, k2, k3, k4⟩ := hK
  have hqb := rn_b (P := iss T n) hp
  rw [hq] at k1 k2 k3 k4 hqb
  subst k1; subst k2; subst k3
  unfold F_X11_readsSlot
  have e8 : a (8 : Int32).toNatClampNeg = lN (A 8) := hM 8 (by omega)
  rw [e8, show ∀ {β : Type} (x : Option β), gi (8 : Int32) 499 x = x from fun x => gi_n (j := 8) (by omega) (by omega), if_pos (show lg_cmp (lN (A 8)) (5 : Int64) = (0 : Int32) by rw [h8]; exact (lc_eq (lN 5) (lN 5)).mpr rfl)]
  have hne : ¬ (-4 : Int32) = (0 : Int32) := by decide
  have hE : RE (some (4, q)) (-nI 4) (nI q) := ⟨by omega, by omega, by show q ≤ 900; omega, rfl, rfl⟩
  have hno : (some (4, q) : Option (Nat × Nat)) ≠ none := by intro h; cases h
  unfold F_X11_fails
  rw [if_pos (show nI 0 = (0 : Int32) from rfl), ob2_some]
  unfold F_X11_readsSlot_b20
  have w0 : F_X11_isWord 1 (nI q) (nI (tbh T n q)) (nI (tkd T n q)) (-4 : Int32) text = some (nI 0) := by
    unfold F_X11_isWord
    rw [if_neg hne]; rfl
  have m0 : F_X11_must (nI 0) (nI n) (nI q) (nI (tbh T n q)) (nI (tkd T n q)) (-4 : Int32) (nI q) num text = some (nI q, nI (tbh T n q), nI (tkd T n q), -4, nI q, num) := by
    unfold F_X11_must F_X11_fails F_X11_must_b10
    rw [if_pos (show nI 0 = (0 : Int32) from rfl), if_neg hne, ob2_some, if_neg hne]
  have s0 : F_X11_isSign (59 : Int32) (nI q) (nI (tkd T n q)) (-4 : Int32) text = some (nI 0) := by
    unfold F_X11_isSign
    rw [if_neg hne]; rfl
  have t0 : ∀ x1 x2, F_X11_takes x1 x2 (nI n) (nI q) (nI (tbh T n q)) (nI (tkd T n q)) (-4 : Int32) (nI q) num text = some (nI 0, nI q, nI (tbh T n q), nI (tkd T n q), -4, nI q, num) := fun x1 x2 => q_takesErr hE hno
  rw [w0, ob1_some, m0, ob6_some, t0, ob7_some, t0, ob7_some, t0, ob7_some, s0, ob1_some, m0, ob6_some, if_neg hne]
  exact ⟨_, _, _, _, _, _, _, rfl, hE, fun h => (by cases h)⟩
end
