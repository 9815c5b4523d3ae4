/-! ===== the three words ===== -/
theorem wvl_ge {T : Nat → Nat} {p : Nat} : ∀ d, (∀ j, p ≤ j → j < p + (d + 1) → 97 ≤ T j ∧ T j ≤ 122) → 32 ^ d ≤ wvl T p (d + 1) := by
  intro d
  induction d with
  | zero =>
    intro h
    have h1 := h p (by omega) (by omega)
    have h2 : wvl T p (0 + 1) = T p - 96 := by rw [wvl_s]; show 32 * 0 + (T (p + 0) - 96) = _; rw [Nat.add_zero]; omega
    rw [h2]
    show 1 ≤ _
    omega
  | succ d ih =>
    intro h
    have h2 := ih (fun j h3 h4 => h j h3 (by omega))
    rw [wvl_s, Nat.pow_succ]
    omega
theorem wrd_nl {T : Nat → Nat} {n q : Nat} (hq : q ≤ n) (h : isl T n q = false) : wrd T n q = 0 := by
  have hb := rn_b (P := isl T n) hq
  have h1 : rn (isl T n) n q = q := by
    rcases Nat.lt_or_ge q (rn (isl T n) n q) with h3 | h3
    · have := rn_in (P := isl T n) (n := n) (p := q) (j := q) (Nat.le_refl _) h3
      rw [h] at this; cases this
    · omega
  unfold wrd
  rw [h1, Nat.sub_self, if_pos (by omega)]
  rfl
/-- the letters of a word with a given length -/
theorem wrd_len {T : Nat → Nat} {n q c L : Nat} (hq : q ≤ n) (hL : 1 ≤ L ∧ L ≤ 8) (hc1 : 32 ^ (L - 1) ≤ c) (hc2 : c < 32 ^ L) (h : wrd T n q = c) : isl T n q = true ∧ rn (isl T n) n q - q = L := by
  have h0 : 0 < 32 ^ (L - 1) := Nat.pow_pos (by omega)
  have h1 := wrd_ok hq (by omega : wrd T n q ≠ 0)
  refine ⟨h1.2.2.2, ?_⟩
  have h2 : ∀ j, q ≤ j → j < rn (isl T n) n q → 97 ≤ T j ∧ T j ≤ 122 := fun j h4 h5 => (isl_iff.mp (rn_in (P := isl T n) (n := n) (p := q) h4 h5)).2
  unfold wrd at h
  rw [if_pos h1.2.2.1] at h
  have h3 := wvl_lt (T := T) (p := q) (rn (isl T n) n q - q) (fun j h4 h5 => h2 j h4 (by omega))
  have h4 := wvl_ge (T := T) (p := q) (rn (isl T n) n q - q - 1) (fun j h4 h5 => h2 j h4 (by omega))
  rw [show rn (isl T n) n q - q - 1 + 1 = rn (isl T n) n q - q by omega] at h4
  rw [h] at h3 h4
  rcases Nat.lt_trichotomy (rn (isl T n) n q - q) L with h5 | h5 | h5
  · have := Nat.pow_le_pow_right (n := 32) (by omega) (show rn (isl T n) n q - q ≤ L - 1 by omega)
    omega
  · exact h5
  · have := Nat.pow_le_pow_right (n := 32) (by omega) (show L ≤ rn (isl T n) n q - q - 1 by omega)
    omega
section
variable {T : Nat → Nat} {n : Nat} {text : Nat → Int32}
/-- a word by its letters -/
def wis (T : Nat → Nat) (n q L : Nat) (b : Nat → Nat) : Prop := isl T n q = true ∧ rn (isl T n) n q - q = L ∧ ∀ j, j < L → T (q + j) = b j
theorem q_isWordG (hT : TX T n text) {s L : Nat} {b : Nat → Nat} (hL : (Int32.ofNat (gq_tl.getD s 0) >>> ((0 : Int32) &&& 31)) = nI L) (hl : gq_tl.getD s 0 = L) (hL5 : L < 5) (hb : ∀ j, j < L → gq_ch s (nI j) = nI (b j) ∧ b j ≤ 255) {q : Nat} (hq : q ≤ n) :
    (F_X11_isWord s (nI q) (nI (tbh T n q)) (nI (tkd T n q)) (nI 0) text = some (nI 1) ∧ wis T n q L b) ∨ (F_X11_isWord s (nI q) (nI (tbh T n q)) (nI (tkd T n q)) (nI 0) text = some (nI 0) ∧ ¬ wis T n q L b) := by
  have hn := hT.1
  have hbq := rn_b (P := isl T n) hq
  unfold F_X11_isWord
  rw [if_pos (show nI 0 = (0 : Int32) from rfl), hL]
  by_cases c1 : isl T n q = true
  · have h3 := tkd_l c1
    rw [if_pos (show nI (tkd T n q) = (0 : Int32) by rw [h3.1]; rfl), h3.2, pk_sub hbq.1]
    by_cases c2 : rn (isl T n) n q - q = L
    · rw [if_pos (congrArg nI c2)]
      have key : (wh (fun k r => S_X11_isWord_34 s (nI q) text k r) wF (0 : Int32) = some (.inr ()) ∧ ∀ j, j < L → T (q + j) = b j) ∨ (wh (fun k r => S_X11_isWord_34 s (nI q) text k r) wF (0 : Int32) = some (.inl ()) ∧ ¬ ∀ j, j < L → T (q + j) = b j) := by
        refine wh_up L (by omega) (fun (j : Nat) (r : Int32) => r = nI j ∧ ∀ i, i < j → T (q + i) = b i) (fun (o : Option (Unit ⊕ Unit)) => (o = some (.inr ()) ∧ ∀ j, j < L → T (q + j) = b j) ∨ (o = some (.inl ()) ∧ ¬ ∀ j, j < L → T (q + j) = b j)) (fun j r hj hI k hk => ?_) (Nat.zero_le _) ⟨rfl, fun i h => absurd h (Nat.not_lt_zero i)⟩
        obtain ⟨e1, e2⟩ := hI
        have e1 : r = nI j := e1
        subst e1
        unfold S_X11_isWord_34
        rw [hL]
        by_cases hlt : j < L
        · have h4 := hb j hlt
          have h5 := hT.2 (q + j) (by omega)
          rw [if_neg (fun h => by have := (nI_leI (by omega) (by omega)).mp h; omega), nI_add, gi_n (by omega) (by omega), hl, gi_n hlt (by omega), nI_clamp (by omega), h5.1, h4.1]
          by_cases c3 : T (q + j) = b j
          · rw [if_pos (congrArg nI c3)]
            refine hk hlt (nI j + 1) ⟨nI_add j 1, fun i hi => ?_⟩
            by_cases h6 : i = j
            · subst h6; exact c3
            · exact e2 i (by omega)
          · rw [if_neg (fun h => c3 ((nI_eq (by omega) (by omega)).mp h))]
            exact Or.inr ⟨rfl, fun h => c3 (h j hlt)⟩
        · have h8 : j = L := by omega
          subst h8
          rw [if_pos (nI_le (Nat.le_refl _) (by omega))]
          exact Or.inl ⟨rfl, e2⟩
      rcases key with ⟨k1, k2⟩ | ⟨k1, k2⟩
      · rw [k1]; exact Or.inl ⟨rfl, c1, c2, k2⟩
      · rw [k1]; exact Or.inr ⟨rfl, fun h => k2 h.2.2⟩
    · rw [if_neg (fun h => c2 ((nI_eq (by omega) (by omega)).mp h))]
      exact Or.inr ⟨rfl, fun h => c2 h.2.1⟩
  · rw [if_neg (tkd_nl (by simpa using c1))]
    exact Or.inr ⟨rfl, fun h => c1 h.1⟩
theorem wis_bd {q L : Nat} {b : Nat → Nat} (h : wis T n q L b) (hq : q ≤ n) (hL : L ≤ 8) : wrd T n q = wvl T q L ∧ ∀ j, j < L → 97 ≤ T (q + j) ∧ T (q + j) ≤ 122 := by
  have hb := rn_b (P := isl T n) hq
  obtain ⟨h1, h2, h3⟩ := h
  refine ⟨?_, fun j hj => (isl_iff.mp (rn_in (P := isl T n) (n := n) (p := q) (j := q + j) (by omega) (by omega))).2⟩
  unfold wrd
  rw [h2, if_pos hL]
def b_seg : Nat → Nat := fun j => if j = 0 then 115 else if j = 1 then 101 else 103
def b_slot : Nat → Nat := fun j => if j = 0 then 115 else if j = 1 then 108 else if j = 2 then 111 else 116
def b_set : Nat → Nat := fun j => if j = 0 then 115 else if j = 1 then 101 else 116
theorem w3 {p : Nat} : wvl T p 3 = 32 * (32 * (T p - 96) + (T (p + 1) - 96)) + (T (p + 2) - 96) := by
  rw [wvl_s, wvl_s, wvl_s]
  show 32 * (32 * (32 * 0 + (T (p + 0) - 96)) + (T (p + 1) - 96)) + (T (p + 2) - 96) = _
  rw [Nat.add_zero]; omega
theorem w4 {p : Nat} : wvl T p 4 = 32 * (32 * (32 * (T p - 96) + (T (p + 1) - 96)) + (T (p + 2) - 96)) + (T (p + 3) - 96) := by
  rw [wvl_s, w3]
theorem seg_iff {q : Nat} (hq : q ≤ n) : wis T n q 3 b_seg ↔ wrd T n q = 19623 := by
  constructor
  · intro h
    obtain ⟨h1, -⟩ := wis_bd h hq (by omega)
    have g0 := h.2.2 0 (by omega)
    have g1 := h.2.2 1 (by omega)
    have g2 := h.2.2 2 (by omega)
    rw [Nat.add_zero] at g0
    rw [h1, w3, g0, g1, g2]
    decide
  · intro h
    obtain ⟨h1, h2⟩ := wrd_len (c := 19623) (L := 3) hq (by omega) (by decide) (by decide) h
    have hb := rn_b (P := isl T n) hq
    have hd : ∀ j, j < 3 → 97 ≤ T (q + j) ∧ T (q + j) ≤ 122 := fun j hj => (isl_iff.mp (rn_in (P := isl T n) (n := n) (p := q) (j := q + j) (by omega) (by omega))).2
    unfold wrd at h
    rw [h2, if_pos (by omega), w3] at h
    have d0 := hd 0 (by omega)
    have d1 := hd 1 (by omega)
    have d2 := hd 2 (by omega)
    rw [Nat.add_zero] at d0
    refine ⟨h1, h2, fun j hj => ?_⟩
    rcases (show j = 0 ∨ j = 1 ∨ j = 2 by omega) with e | e | e
    · subst e; show T (q + 0) = 115; rw [Nat.add_zero]; omega
    · subst e; show T (q + 1) = 101; omega
    · subst e; show T (q + 2) = 103; omega
theorem set_iff {q : Nat} (hq : q ≤ n) : wis T n q 3 b_set ↔ wrd T n q = 19636 := by
  constructor
  · intro h
    obtain ⟨h1, -⟩ := wis_bd h hq (by omega)
    have g0 := h.2.2 0 (by omega)
    have g1 := h.2.2 1 (by omega)
    have g2 := h.2.2 2 (by omega)
    rw [Nat.add_zero] at g0
    rw [h1, w3, g0, g1, g2]
    decide
  · intro h
    obtain ⟨h1, h2⟩ := wrd_len (c := 19636) (L := 3) hq (by omega) (by decide) (by decide) h
    have hb := rn_b (P := isl T n) hq
    have hd : ∀ j, j < 3 → 97 ≤ T (q + j) ∧ T (q + j) ≤ 122 := fun j hj => (isl_iff.mp (rn_in (P := isl T n) (n := n) (p := q) (j := q + j) (by omega) (by omega))).2
    unfold wrd at h
    rw [h2, if_pos (by omega), w3] at h
    have d0 := hd 0 (by omega)
    have d1 := hd 1 (by omega)
    have d2 := hd 2 (by omega)
    rw [Nat.add_zero] at d0
    refine ⟨h1, h2, fun j hj => ?_⟩
    rcases (show j = 0 ∨ j = 1 ∨ j = 2 by omega) with e | e | e
    · subst e; show T (q + 0) = 115; rw [Nat.add_zero]; omega
    · subst e; show T (q + 1) = 101; omega
    · subst e; show T (q + 2) = 116; omega
theorem slot_iff {q : Nat} (hq : q ≤ n) : wis T n q 4 b_slot ↔ wrd T n q = 635380 := by
  constructor
  · intro h
    obtain ⟨h1, -⟩ := wis_bd h hq (by omega)
    have g0 := h.2.2 0 (by omega)
    have g1 := h.2.2 1 (by omega)
    have g2 := h.2.2 2 (by omega)
    have g3 := h.2.2 3 (by omega)
    rw [Nat.add_zero] at g0
    rw [h1, w4, g0, g1, g2, g3]
    decide
  · intro h
    obtain ⟨h1, h2⟩ := wrd_len (c := 635380) (L := 4) hq (by omega) (by decide) (by decide) h
    have hb := rn_b (P := isl T n) hq
    have hd : ∀ j, j < 4 → 97 ≤ T (q + j) ∧ T (q + j) ≤ 122 := fun j hj => (isl_iff.mp (rn_in (P := isl T n) (n := n) (p := q) (j := q + j) (by omega) (by omega))).2
    unfold wrd at h
    rw [h2, if_pos (by omega), w4] at h
    have d0 := hd 0 (by omega)
    have d1 := hd 1 (by omega)
    have d2 := hd 2 (by omega)
    have d3 := hd 3 (by omega)
    rw [Nat.add_zero] at d0
    refine ⟨h1, h2, fun j hj => ?_⟩
    rcases (show j = 0 ∨ j = 1 ∨ j = 2 ∨ j = 3 by omega) with e | e | e | e
    · subst e; show T (q + 0) = 115; rw [Nat.add_zero]; omega
    · subst e; show T (q + 1) = 108; omega
    · subst e; show T (q + 2) = 111; omega
    · subst e; show T (q + 3) = 116; omega
theorem q_isSeg (hT : TX T n text) {q : Nat} (hq : q ≤ n) : F_X11_isWord 0 (nI q) (nI (tbh T n q)) (nI (tkd T n q)) (nI 0) text = some (bI (wrd T n q = 19623)) := by
  rcases q_isWordG (s := 0) (L := 3) (b := b_seg) hT (by decide) rfl (by omega) (by decide) hq with ⟨h1, h2⟩ | ⟨h1, h2⟩
  · rw [h1, bI_1 ((seg_iff hq).mp h2)]
  · rw [h1, bI_0 (fun h => h2 ((seg_iff hq).mpr h))]
theorem q_isSlot0 (hT : TX T n text) {q : Nat} (hq : q ≤ n) : F_X11_isWord 1 (nI q) (nI (tbh T n q)) (nI (tkd T n q)) (nI 0) text = some (bI (wrd T n q = 635380)) := by
  rcases q_isWordG (s := 1) (L := 4) (b := b_slot) hT (by decide) rfl (by omega) (by decide) hq with ⟨h1, h2⟩ | ⟨h1, h2⟩
  · rw [h1, bI_1 ((slot_iff hq).mp h2)]
  · rw [h1, bI_0 (fun h => h2 ((slot_iff hq).mpr h))]
theorem q_isSet (hT : TX T n text) {q : Nat} (hq : q ≤ n) : F_X11_isWord 2 (nI q) (nI (tbh T n q)) (nI (tkd T n q)) (nI 0) text = some (bI (wrd T n q = 19636)) := by
  rcases q_isWordG (s := 2) (L := 3) (b := b_set) hT (by decide) rfl (by omega) (by decide) hq with ⟨h1, h2⟩ | ⟨h1, h2⟩
  · rw [h1, bI_1 ((set_iff hq).mp h2)]
  · rw [h1, bI_0 (fun h => h2 ((set_iff hq).mpr h))]
/-- the word is there: the reader goes on -/
theorem q_mustW (hT : TX T n text) {q : Nat} {wa : Int32} {num : Int64} (hq : q ≤ n) (h : isl T n q = true) : ∃ at' be' kd' num', F_X11_must (nI 1) (nI n) (nI q) (nI (tbh T n q)) (nI (tkd T n q)) (nI 0) wa num text = some (at', be', kd', nI 0, wa, num') ∧ TKR T n (rn (isl T n) n q) at' be' kd' num' := by
  have hb := rn_b (P := isl T n) hq
  have h3 := tkd_l h
  obtain ⟨at', be', kd', num', g1, g2⟩ := q_next hT (p := rn (isl T n) n q) (at0 := nI q) (kd0 := nI (tkd T n q)) (num0 := num) hb.2
  refine ⟨at', be', kd', num', ?_, g2⟩
  unfold F_X11_must F_X11_must_b10
  rw [if_neg (show ¬ nI 1 = (0 : Int32) by decide), if_pos (show nI 0 = (0 : Int32) from rfl), h3.2, g1]
  rfl
end
