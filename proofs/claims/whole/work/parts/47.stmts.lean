/-! ===== the statements, by both ===== -/
def orr (x y : Option (Nat × Nat)) : Option (Nat × Nat) :=
  match x with
  | some e => some e
  | none => y
theorem erj_no {o : Option (Nat × Nat)} {c p : Nat} (h : erj o c p = none) : o = none ∧ c = 0 := by
  cases o with
  | some x => cases h
  | none =>
    unfold erj at h
    by_cases h1 : c = 0
    · exact ⟨rfl, h1⟩
    · dsimp only at h; rw [if_neg h1] at h; cases h
theorem orr_no {x y : Option (Nat × Nat)} (h : orr x y = none) : x = none ∧ y = none := by
  cases x with
  | some e => cases h
  | none => exact ⟨rfl, h⟩
/-- a segment begun: its numbers -/
def sg0 (T : Nat → Nat) (n : Nat) (A : Nat → Nat) (p : Nat) : Nat → Nat := uA (uA A (10 + 12 * A 6 + 0) (nvl T n 1 999 p)) (10 + 12 * A 6 + 1) (nvl T n 0 99 (nend T n p))
def sgo (T : Nat → Nat) (n p : Nat) : Option (Nat × Nat) := erj (erj none (nrc T n 1 999 p) (rn (iss T n) n p)) (nrc T n 0 99 (nend T n p)) (rn (iss T n) n (nend T n p))
def sg1 (T : Nat → Nat) (n : Nat) (A : Nat → Nat) (p : Nat) : Option (Nat × Nat) × (Nat → Nat) × Nat := (orr (sgo T n p) (nml T n 9 (sg0 T n A p) (nend T n (nend T n p))).1, seA (nml T n 9 (sg0 T n A p) (nend T n (nend T n p))).2.1, (nml T n 9 (sg0 T n A p) (nend T n (nend T n p))).2.2)
def slo3 (T : Nat → Nat) (n p : Nat) : Option (Nat × Nat) := erj (erj (erj none (nrc T n 0 9999 p) (rn (iss T n) n p)) (nrc T n 1 300 (nend T n p)) (rn (iss T n) n (nend T n p))) (nrc T n 0 999 (nend T n (nend T n p))) (rn (iss T n) n (nend T n (nend T n p)))
def sl1 (T : Nat → Nat) (n : Nat) (A : Nat → Nat) (p : Nat) : Option (Nat × Nat) × (Nat → Nat) × Nat := (slo3 T n p, isA A (plw A (nvl T n 0 9999 p) (A 8)) (nvl T n 0 9999 p) (nvl T n 1 300 (nend T n p)) (nvl T n 0 999 (nend T n (nend T n p))), nend T n (nend T n (nend T n p)))
def se1 (T : Nat → Nat) (n : Nat) (A : Nat → Nat) (p : Nat) : Option (Nat × Nat) × (Nat → Nat) × Nat := (erj (erj none (nrc T n 0 5 p) (rn (iss T n) n p)) (nrc T n (slo (nvl T n 0 5 p)) (shi (nvl T n 0 5 p)) (nend T n p)) (rn (iss T n) n (nend T n p)), uA A (nvl T n 0 5 p) (nvl T n (slo (nvl T n 0 5 p)) (shi (nvl T n 0 5 p)) (nend T n p)), nend T n (nend T n p))
/-- and its semicolon -/
def sem (T : Nat → Nat) (n : Nat) (X : Option (Nat × Nat) × (Nat → Nat) × Nat) : Option (Nat × Nat) × (Nat → Nat) × Nat := (erj X.1 (smc T n X.2.2) (rn (iss T n) n X.2.2), X.2.1, rn (iss T n) n X.2.2 + 1)
/-- the statement whose word stands at q -/
def stm (T : Nat → Nat) (n : Nat) (A : Nat → Nat) (q : Nat) : Option (Nat × Nat) × (Nat → Nat) × Nat :=
  if wrd T n q = 19623 then (if A 6 = 32 then (some (4, q), A, q) else sg1 T n A (rn (isl T n) n q))
  else if wrd T n q = 635380 then (if A 8 = 5 then (some (4, q), A, q) else sl1 T n A (rn (isl T n) n q))
  else if wrd T n q = 19636 then se1 T n A (rn (isl T n) n q)
  else (some (2, q), A, q)
section
variable {T : Nat → Nat} {n : Nat} {text : Nat → Int32} {A : Nat → Nat} {a : Nat → Int64}
theorem sg0_IP (h : VP A) (h32 : A 6 < 32) {p : Nat} : IP (sg0 T n A p) := by
  obtain ⟨hV, a1, a2, a3, a4, a5⟩ := h
  have v1 := nvl_b (T := T) (n := n) (p := p) (lo := 1) (hi := 999) (by omega)
  have v2 := nvl_b (T := T) (n := n) (p := nend T n p) (lo := 0) (hi := 99) (by omega)
  have e : ∀ j, j < 10 + 12 * A 6 ∨ 10 + 12 * A 6 + 1 < j → sg0 T n A p j = A j := fun j hj => by
    unfold sg0
    rw [uA_n (by omega), uA_n (by omega)]
  have e6 := e 6 (by omega)
  have z2 : oA A (A 6) 2 = 0 := a5 (A 6) (Nat.le_refl _) h32
  unfold IP
  rw [e6, e 9 (by omega), e 409 (by omega), e 410 (by omega), e 7 (by omega)]
  have r0 : oA (sg0 T n A p) (A 6) 0 = nvl T n 1 999 p := by
    unfold oA sg0
    rw [uA_n (by omega), uA_s]
  have r1 : oA (sg0 T n A p) (A 6) 1 = nvl T n 0 99 (nend T n p) := by
    unfold oA sg0
    rw [uA_s]
  have r2 : oA (sg0 T n A p) (A 6) 2 = 0 := by
    have : oA (sg0 T n A p) (A 6) 2 = oA A (A 6) 2 := e _ (by omega)
    rw [this, z2]
  rw [r0, r1, r2]
  refine ⟨hV.out (fun j hj => e j (by omega)), a1, fun s hs => ?_, a3, a4, fun s hs hs2 => ?_, h32, v1.1, v1.2, v2.2, Nat.zero_le _, fun k hk => absurd hk (Nat.not_lt_zero k)⟩
  · have : oA (sg0 T n A p) s 11 = oA A s 11 := e _ (by omega)
    rw [this]; exact a2 s hs
  · have : oA (sg0 T n A p) s 2 = oA A s 2 := e _ (by omega)
    rw [this]; exact a5 s (by omega) hs2
theorem stm_ok (h : VP A) {q : Nat} (hq : q ≤ n) (hn : n ≤ 900) : (stm T n A q).1 = none → VP (stm T n A q).2.1 ∧ q ≤ (stm T n A q).2.2 ∧ (stm T n A q).2.2 ≤ n := by
  have hb := rn_b (P := isl T n) hq
  have n1 := nend_b (T := T) hb.2
  have n2 := nend_b (T := T) n1.2
  have n3 := nend_b (T := T) n2.2
  obtain ⟨hV, a1, a2, a3, a4, a5⟩ := h
  unfold stm
  by_cases c1 : wrd T n q = 19623
  · rw [if_pos c1]
    by_cases c2 : A 6 = 32
    · rw [if_pos c2]; intro h; cases h
    · rw [if_neg c2]
      have hn6 := hV.n
      have h2 := sg0_IP (T := T) (n := n) (p := rn (isl T n) n q) ⟨hV, a1, a2, a3, a4, a5⟩ (by omega)
      have h3 := nml_ok (T := T) 9 _ _ h2 n2.2 (by omega)
      unfold sg1
      generalize nml T n 9 (sg0 T n A (rn (isl T n) n q)) (nend T n (nend T n (rn (isl T n) n q))) = R at h3 ⊢
      intro h
      have h1 := orr_no h
      have h4 := h3.2 h1.2
      refine ⟨se_VP h4.1 h4.2.1, ?_, h4.2.2.2.1⟩
      show q ≤ R.2.2
      omega
  · rw [if_neg c1]
    by_cases c2 : wrd T n q = 635380
    · rw [if_pos c2]
      by_cases c3 : A 8 = 5
      · rw [if_pos c3]; intro h; cases h
      · rw [if_neg c3]
        intro _
        have hl := hV.nl
        have v1 := nvl_b (T := T) (n := n) (p := rn (isl T n) n q) (lo := 0) (hi := 9999) (by omega)
        have v2 := nvl_b (T := T) (n := n) (p := nend T n (rn (isl T n) n q)) (lo := 1) (hi := 300) (by omega)
        have v3 := nvl_b (T := T) (n := n) (p := nend T n (nend T n (rn (isl T n) n q))) (lo := 0) (hi := 999) (by omega)
        have hp := plw_le A (nvl T n 0 9999 (rn (isl T n) n q)) (A 8)
        have e := fun j => is_n (A := A) (p := plw A (nvl T n 0 9999 (rn (isl T n) n q)) (A 8)) (w := nvl T n 0 9999 (rn (isl T n) n q)) (l := nvl T n 1 300 (nend T n (rn (isl T n) n q))) (r := nvl T n 0 999 (nend T n (nend T n (rn (isl T n) n q)))) (j := j) (by omega) hp
        refine ⟨⟨is_VA hV (by omega) v1.2 v2 v3.2, ?_, fun s hs => ?_, ?_, ?_, fun s hs hs2 => ?_⟩, by show q ≤ nend T n (nend T n (nend T n (rn (isl T n) n q))); omega, n3.2⟩
        · show isA A _ _ _ _ 9 = isA A _ _ _ _ 6
          rw [e 9 (by omega) (by omega), e 6 (by omega) (by omega)]; exact a1
        · have hs : s < A 6 := by
            have := e 6 (by omega) (by omega)
            rw [← this]; exact hs
          have hn6 := hV.n
          have : oA (isA A (plw A (nvl T n 0 9999 (rn (isl T n) n q)) (A 8)) (nvl T n 0 9999 (rn (isl T n) n q)) (nvl T n 1 300 (nend T n (rn (isl T n) n q))) (nvl T n 0 999 (nend T n (nend T n (rn (isl T n) n q))))) s 11 = oA A s 11 := e _ (by omega) (by omega)
          exact this.trans (a2 s hs)
        · exact (e 409 (by omega) (by omega)).trans a3
        · exact (e 410 (by omega) (by omega)).trans a4
        · have hs : A 6 ≤ s := by
            have := e 6 (by omega) (by omega)
            rw [← this]; exact hs
          have : oA (isA A (plw A (nvl T n 0 9999 (rn (isl T n) n q)) (A 8)) (nvl T n 0 9999 (rn (isl T n) n q)) (nvl T n 1 300 (nend T n (rn (isl T n) n q))) (nvl T n 0 999 (nend T n (nend T n (rn (isl T n) n q))))) s 2 = oA A s 2 := e _ (by omega) (by omega)
          exact this.trans (a5 s hs hs2)
    · rw [if_neg c2]
      by_cases c3 : wrd T n q = 19636
      · rw [if_pos c3]
        intro _
        have v1 := nvl_b (T := T) (n := n) (p := rn (isl T n) n q) (lo := 0) (hi := 5) (by omega)
        have hsl : slo (nvl T n 0 5 (rn (isl T n) n q)) ≤ shi (nvl T n 0 5 (rn (isl T n) n q)) := by
          unfold slo shi; split <;> split <;> (try split) <;> (try split) <;> omega
        have v2 := nvl_b (T := T) (n := n) (p := nend T n (rn (isl T n) n q)) hsl
        have e : ∀ j, 6 ≤ j → uA A (nvl T n 0 5 (rn (isl T n) n q)) (nvl T n (slo (nvl T n 0 5 (rn (isl T n) n q))) (shi (nvl T n 0 5 (rn (isl T n) n q))) (nend T n (rn (isl T n) n q))) j = A j := fun j hj => uA_n (by omega)
        refine ⟨⟨set_SHr hV (by omega) v2, (e 9 (by omega)).trans (a1.trans (e 6 (by omega)).symm), fun s hs => ?_, (e 409 (by omega)).trans a3, (e 410 (by omega)).trans a4, fun s hs hs2 => ?_⟩, by show q ≤ nend T n (nend T n (rn (isl T n) n q)); omega, n2.2⟩
        · have h6 := e 6 (by omega)
          have hs : s < A 6 := by rw [← h6]; exact hs
          exact (e _ (by omega)).trans (a2 s hs)
        · have h6 := e 6 (by omega)
          have hs : A 6 ≤ s := by rw [← h6]; exact hs
          exact (e _ (by omega)).trans (a5 s hs hs2)
      · rw [if_neg c3]; intro h; cases h
/-! the reference -/
theorem q_takesO (hT : TX T n text) {p lo hi : Nat} {o : Option (Nat × Nat)} {at_ be kd wr wa : Int32} {num : Int64} (hE : RE o wr wa) (hK : o = none → TKR T n p at_ be kd num) (hlo : lo ≤ hi) (hhi : hi ≤ 9999) :
    ∃ r at' be' kd' wr' wa' num', F_X11_takes (nI lo) (nI hi) (nI n) at_ be kd wr wa num text = some (r, at', be', kd', wr', wa', num') ∧ RE (erj o (nrc T n lo hi p) (rn (iss T n) n p)) wr' wa' ∧ (erj o (nrc T n lo hi p) (rn (iss T n) n p) = none → r = nI (nvl T n lo hi p) ∧ TKR T n (nend T n p) at' be' kd' num') ∧ (erj o (nrc T n lo hi p) (rn (iss T n) n p) ≠ none → r = nI 0) := by
  cases o with
  | none =>
    have h0 : wr = nI 0 := hE
    subst h0
    obtain ⟨r, at', be', kd', wr', wa', num', g1, g2, g3, g4⟩ := q_takes (wa := wa) hT (hK rfl) hlo hhi
    refine ⟨r, at', be', kd', wr', wa', num', g1, g2, fun h => g3 (erj_no h).2, fun h => g4 (fun h2 => h (if_pos h2))⟩
  | some e =>
    exact ⟨_, _, _, _, _, _, _, q_takesErr hE (by intro h; cases h), hE, fun h => (by cases h), fun _ => rfl⟩
theorem q_semiO (hT : TX T n text) {p : Nat} {o : Option (Nat × Nat)} {at_ be kd wr wa : Int32} {num : Int64} (hE : RE o wr wa) (hK : o = none → TKR T n p at_ be kd num) :
    ∃ b at' be' kd' wr' wa' num', F_X11_isSign (59 : Int32) at_ kd wr text = some b ∧ F_X11_must b (nI n) at_ be kd wr wa num text = some (at', be', kd', wr', wa', num') ∧ RE (erj o (smc T n p) (rn (iss T n) n p)) wr' wa' ∧ (erj o (smc T n p) (rn (iss T n) n p) = none → TKR T n (rn (iss T n) n p + 1) at' be' kd' num') := by
  cases o with
  | none =>
    have h0 : wr = nI 0 := hE
    subst h0
    obtain ⟨b, at', be', kd', wr', wa', num', g1, g2, g3, g4⟩ := q_semi (wa := wa) hT (hK rfl)
    exact ⟨b, at', be', kd', wr', wa', num', g1, g2, g3, fun h => g4 (erj_no h).2⟩
  | some e =>
    have h0 := hE.no (by intro h; cases h)
    refine ⟨nI 0, at_, be, kd, wr, wa, num, ?_, ?_, hE, fun h => (by cases h)⟩
    · unfold F_X11_isSign
      rw [if_neg h0]; rfl
    · unfold F_X11_must F_X11_fails F_X11_must_b10
      rw [if_pos (show nI 0 = (0 : Int32) from rfl), if_neg h0, ob2_some, if_neg h0]
end
