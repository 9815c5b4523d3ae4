/-! ===== the reference's word; the words of a segment by both ===== -/
section
variable {T : Nat → Nat} {n : Nat} {text : Nat → Int32} {A : Nat → Nat} {a : Nat → Int64}
theorem q_tw48 (hM : MR A a) (hnw : A 7 ≤ 24) (hnm : ∀ w, w < A 7 → nmOK 8 (A (475 + w))) {o : Option (Nat × Nat)} {at_ be kd wr wa : Int32} {num : Int64} (hE : RE o wr wa) (ho : o ≠ none) : F_X11_takesWord_b48 (nI n) at_ be kd wr wa num a text = some (nI 0, at_, be, kd, wr, wa, num, a) := by
  have h0 := hE.no ho
  have key : wh (fun k s => S_X11_takesWord_56 (nI n) at_ be kd wr wa num a text k s.1 s.2) wF ((0 : Int64), at_) = some (lN 0) := by
    refine whf (fun _ => ((0 : Int64), at_)) 0 0 rfl (Nat.le_refl _) (by omega) (fun j _ hj k => absurd hj (Nat.not_lt_zero j)) (fun k => ?_)
    show S_X11_takesWord_56 (nI n) at_ be kd wr wa num a text k 0 at_ = _
    unfold S_X11_takesWord_56
    rw [if_neg h0]
    rfl
  unfold F_X11_takesWord_b48
  rw [key, ob1_some]
  exact q_tw97 hM hnw hnm (by omega) hE ho
theorem tkd_l {q : Nat} (h : isl T n q = true) : tkd T n q = 0 ∧ tbh T n q = rn (isl T n) n q := by
  have h1 := isl_iff.mp h
  unfold tkd tbh
  rw [if_neg (by omega), if_pos h, if_neg (by omega), if_pos h]
  exact ⟨rfl, rfl⟩
theorem tkd_nl {q : Nat} (h : isl T n q = false) : ¬ nI (tkd T n q) = (0 : Int32) := by
  have h1 : tkd T n q ≠ 0 ∧ tkd T n q < 4 := by
    unfold tkd
    rw [h]
    split
    · omega
    · rw [if_neg (by decide)]; split <;> omega
  exact fun h2 => h1.1 ((nI_eq (b := 0) (by omega) (by omega)).mp h2)
theorem q_takesWord (hT : TX T n text) (hM : MR A a) (h : IP A) {p : Nat} {at_ be kd wa : Int32} {num : Int64} (hK : TKR T n p at_ be kd num) :
    ∃ r at' be' kd' wr' wa' num' a', F_X11_takesWord (lN (A (10 + 12 * A 6 + 2))) (nI n) at_ be kd (nI 0) wa num a text = some (r, at', be', kd', wr', wa', num', a') ∧ RE (erj none (nst T n A (rn (iss T n) n p)) (rn (iss T n) n p)) wr' wa' ∧ (nst T n A (rn (iss T n) n p) = 0 → r = nI (wix A (wrd T n (rn (iss T n) n p))) ∧ TKR T n (rn (isl T n) n (rn (iss T n) n p)) at' be' kd' num' ∧ MR (adN A (wrd T n (rn (iss T n) n p))) a') := by
  have hn := hT.1
  obtain ⟨hV, a1, a2, a3, a4, a5, a6, b0, b1, b2, b3, b4⟩ := h
  have hnw := hV.nw
  have hnm : ∀ w, w < A 7 → nmOK 8 (A (475 + w)) := fun w hw => hV.nm hw
  have e2 : oA A (A 6) 2 = A (10 + 12 * A 6 + 2) := rfl
  obtain ⟨hp, k1, k2, k3, k4⟩ := hK
  have hq := rn_b (P := iss T n) hp
  generalize rn (iss T n) n p = q at *
  subst k1; subst k2; subst k3
  have hb := rn_b (P := isl T n) hq.2
  generalize hk : A (10 + 12 * A 6 + 2) = kk at *
  have z0 : nI 0 = (0 : Int32) := rfl
  -- an error: nothing more
  have err : ∀ c, 2 ≤ c → c ≤ 4 → F_X11_takesWord_b48 (nI n) (nI q) (nI (tbh T n q)) (nI (tkd T n q)) (-nI c) (nI q) num a text = some (nI 0, nI q, nI (tbh T n q), nI (tkd T n q), -nI c, nI q, num, a) := fun c h1 h2 => q_tw48 (o := some (c, q)) hM hnw hnm ⟨h1, h2, by show q ≤ 900; omega, rfl, rfl⟩ (by intro h; cases h)
  have r2 : ∀ c, 2 ≤ c → c ≤ 4 → RE (some (c, q)) (-nI c) (nI q) := fun c h1 h2 => ⟨h1, h2, by show q ≤ 900; omega, rfl, rfl⟩
  have b28 : F_X11_takesWord_b28 (lN kk) (nI n) (nI q) (nI (tbh T n q)) (nI (tkd T n q)) (nI 0) wa num a text = some (nI 0, nI q, nI (tbh T n q), nI (tkd T n q), -nI 2, nI q, num, a) := by
    unfold F_X11_takesWord_b28 F_X11_fails
    rw [if_pos z0, ob2_some]
    unfold F_X11_takesWord_b34 F_X11_fails
    have hne : ¬ (-2 : Int32) = (0 : Int32) := by decide
    rw [if_neg hne, ob2_some]
    split
    · exact err 2 (by omega) (by omega)
    · exact err 2 (by omega) (by omega)
  unfold F_X11_takesWord
  rw [if_pos z0]
  by_cases c1 : wrd T n q = 0
  · have e1 : nst T n A q = 2 := if_pos c1
    rw [e1]
    have go : ∀ x, x = some (nI 0, nI q, nI (tbh T n q), nI (tkd T n q), -nI 2, nI q, num, a) → ∃ r at' be' kd' wr' wa' num' a', x = some (r, at', be', kd', wr', wa', num', a') ∧ RE (erj none 2 q) wr' wa' ∧ (2 = 0 → r = nI (wix A (wrd T n q)) ∧ TKR T n (rn (isl T n) n q) at' be' kd' num' ∧ MR (adN A (wrd T n q)) a') := fun x hx => ⟨_, _, _, _, _, _, _, _, hx, r2 2 (by omega) (by omega), fun h => by omega⟩
    refine go _ ?_
    rcases wrd_0 hq.2 c1 with h1 | h1
    · rw [if_neg (tkd_nl h1)]; exact b28
    · have h2 : isl T n q = true := rn_in (P := isl T n) (n := n) (p := q) (Nat.le_refl _) (by omega)
      have h3 := tkd_l h2
      rw [if_pos (show nI (tkd T n q) = (0 : Int32) by rw [h3.1]; rfl)]
      rw [if_neg (show ¬ nI (tbh T n q) - nI q ≤ (8 : Int32) by
        rw [h3.2, pk_sub hb.1]
        exact fun h => by have := (nI_leI (b := 8) (by omega) (by omega)).mp h; omega)]
      exact b28
  · have hw := wrd_ok hq.2 c1
    have hw40 := nmOK_8 hw.1
    have h3 := tkd_l hw.2.2.2
    have hwb := wix_b (A := A) (v := wrd T n q)
    rw [if_pos (show nI (tkd T n q) = (0 : Int32) by rw [h3.1]; rfl), if_pos (show nI (tbh T n q) - nI q ≤ (8 : Int32) by
        rw [h3.2, pk_sub hb.1]
        exact nI_le (b := 8) hw.2.2.1 (by omega))]
    unfold F_X11_takesWord_b34
    by_cases c2 : kk = 8
    · have e1 : nst T n A q = 4 := by unfold nst; rw [if_neg c1, hk, if_pos c2]
      rw [if_pos (show lg_cmp (lN kk) (8 : Int64) = (0 : Int32) by rw [c2]; exact (lc_eq (lN 8) (lN 8)).mpr rfl), e1]
      unfold F_X11_fails
      rw [if_pos z0, ob2_some]
      exact ⟨_, _, _, _, _, _, _, _, err 4 (by omega) (by omega), r2 4 (by omega) (by omega), fun h => by omega⟩
    · rw [if_neg (show ¬ lg_cmp (lN kk) (8 : Int64) = (0 : Int32) from fun h => by
        have h9 : lN kk = lN 8 := (lc_eq (lN kk) (lN 8)).mp h
        exact c2 ((lN_eq (by omega) (by omega)).mp h9))]
      unfold F_X11_takesWord_b48
      have kl : wh (fun k s => S_X11_takesWord_56 (nI n) (nI q) (nI (tbh T n q)) (nI (tkd T n q)) (nI 0) wa num a text k s.1 s.2) wF ((0 : Int64), nI q) = some (lN (wrd T n q)) := by
        rw [h3.2]
        exact q_wordLoop (be := nI 0) hT hq.2 c1
      rw [kl, ob1_some]
      unfold F_X11_takesWord_b97
      have h7 := hM.at (k := 7) (by omega)
      have e7 : (a (7 : Int32).toNatClampNeg).toInt32 = nI (A 7) := by
        rw [show (7 : Int32).toNatClampNeg = 7 from by decide, h7, lN_i]
      have g7 : ∀ {β : Type} (x : Option β), gi (7 : Int32) 499 x = x := fun x => gi_n (j := 7) (by omega) (by omega)
      have s7 : wh (fun k s => S_X11_takesWord_110 (lN (wrd T n q)) (nI (A 7)) (nI n) (nI q) (nI (tbh T n q)) (nI (tkd T n q)) (nI 0) wa num a text k s) wF (0 : Int32) = some (nI (wix A (wrd T n q))) := q_search hM hnw hnm hw40.2
      rw [e7, g7, ob1_s s7]
      unfold F_X11_takesWord_b139
      by_cases c3 : wix A (wrd T n q) = A 7 ∧ A 7 = 24
      · have e1 : nst T n A q = 4 := by unfold nst; rw [if_neg c1, hk, if_neg c2, if_pos c3]
        rw [if_pos (show nI (wix A (wrd T n q)) = (24 : Int32) by rw [c3.1, c3.2]; rfl), e1]
        unfold F_X11_fails F_X11_takesWord_b152
        rw [if_pos z0, ob2_some, if_neg (show ¬ (-4 : Int32) = (0 : Int32) by decide)]
        exact ⟨_, _, _, _, _, _, _, _, rfl, r2 4 (by omega) (by omega), fun h => by omega⟩
      · have e1 : nst T n A q = 0 := by unfold nst; rw [if_neg c1, hk, if_neg c2, if_neg c3]
        rw [if_neg (show ¬ nI (wix A (wrd T n q)) = (24 : Int32) from fun h => by
          have h9 := (nI_eq (b := 24) (by omega) (by omega)).mp h
          exact c3 ⟨by omega, by omega⟩), e1]
        unfold F_X11_takesWord_b152
        rw [if_pos z0]
        have nx : ∀ a', ∃ at' be' kd' num', F_X11_takesWord_b191 (nI (wix A (wrd T n q))) (nI n) (nI q) (nI (tbh T n q)) (nI (tkd T n q)) (nI 0) wa num a' text = some (nI (wix A (wrd T n q)), at', be', kd', nI 0, wa, num', a') ∧ TKR T n (rn (isl T n) n q) at' be' kd' num' := fun a' => by
          obtain ⟨at', be', kd', num', g1, g2⟩ := q_next hT (p := rn (isl T n) n q) (at0 := nI q) (kd0 := nI (tkd T n q)) (num0 := num) hb.2
          refine ⟨at', be', kd', num', ?_, g2⟩
          unfold F_X11_takesWord_b191
          rw [h3.2, g1]
          rfl
        by_cases c4 : wix A (wrd T n q) = A 7
        · rw [if_pos (congrArg nI c4)]
          have e5 : ((475 : Int32) + nI (A 7)) = nI (475 + A 7) := nI_add 475 (A 7)
          have e6 : (7 : Int32).toNatClampNeg = 7 := by decide
          rw [e5, e6, gi_n (by omega) (by omega), nI_clamp (by omega), g7, g7]
          have e8 : vp_updL a (475 + A 7) (lN (wrd T n q)) 7 + (1 : Int64) = lN (A 7 + 1) := by
            rw [pk_uLn (by omega), h7]; exact lN_add (A 7) 1
          rw [e8]
          obtain ⟨at', be', kd', num', g1, g2⟩ := nx (vp_updL (vp_updL a (475 + A 7) (lN (wrd T n q))) 7 (lN (A 7 + 1)))
          refine ⟨_, _, _, _, _, _, _, _, g1, rfl, fun _ => ⟨rfl, g2, ?_⟩⟩
          unfold adN
          rw [if_neg (by omega)]
          exact hM.u.u
        · rw [if_neg (fun h => c4 ((nI_eq (by omega) (by omega)).mp h))]
          obtain ⟨at', be', kd', num', g1, g2⟩ := nx a
          refine ⟨_, _, _, _, _, _, _, _, g1, rfl, fun _ => ⟨rfl, g2, ?_⟩⟩
          unfold adN
          rw [if_pos (by omega)]
          exact hM
/-- the words of a segment that is read -/
def nml (T : Nat → Nat) (n : Nat) : Nat → (Nat → Nat) → Nat → Option (Nat × Nat) × (Nat → Nat) × Nat
  | 0, A, p => (none, A, p)
  | f + 1, A, p => if nst T n A (rn (iss T n) n p) = 0 then (if isl T n (rn (iss T n) n (rn (isl T n) n (rn (iss T n) n p))) = true then nml T n f (adW A (wrd T n (rn (iss T n) n p))) (rn (isl T n) n (rn (iss T n) n p)) else (none, adW A (wrd T n (rn (iss T n) n p)), rn (isl T n) n (rn (iss T n) n p))) else (some (nst T n A (rn (iss T n) n p), rn (iss T n) n p), A, p)
theorem nml_s (T : Nat → Nat) (n f : Nat) (A : Nat → Nat) (p : Nat) : nml T n (f + 1) A p = if nst T n A (rn (iss T n) n p) = 0 then (if isl T n (rn (iss T n) n (rn (isl T n) n (rn (iss T n) n p))) = true then nml T n f (adW A (wrd T n (rn (iss T n) n p))) (rn (isl T n) n (rn (iss T n) n p)) else (none, adW A (wrd T n (rn (iss T n) n p)), rn (isl T n) n (rn (iss T n) n p))) else (some (nst T n A (rn (iss T n) n p), rn (iss T n) n p), A, p) := rfl
theorem nst_0 {q : Nat} (hq : q ≤ n) (h : nst T n A q = 0) : wrd T n q ≠ 0 ∧ A (10 + 12 * A 6 + 2) ≠ 8 ∧ ¬ (wix A (wrd T n q) = A 7 ∧ A 7 = 24) := by
  unfold nst at h
  by_cases c1 : wrd T n q = 0
  · rw [if_pos c1] at h; omega
  · rw [if_neg c1] at h
    by_cases c2 : A (10 + 12 * A 6 + 2) = 8
    · rw [if_pos c2] at h; omega
    · rw [if_neg c2] at h
      by_cases c3 : wix A (wrd T n q) = A 7 ∧ A 7 = 24
      · rw [if_pos c3] at h; omega
      · exact ⟨c1, c2, c3⟩
theorem nst_b {q : Nat} (h : nst T n A q ≠ 0) : 2 ≤ nst T n A q ∧ nst T n A q ≤ 4 := by
  unfold nst at h ⊢
  by_cases c1 : wrd T n q = 0
  · rw [if_pos c1]; omega
  · rw [if_neg c1] at h ⊢
    by_cases c2 : A (10 + 12 * A 6 + 2) = 8
    · rw [if_pos c2]; omega
    · rw [if_neg c2] at h ⊢
      by_cases c3 : wix A (wrd T n q) = A 7 ∧ A 7 = 24
      · rw [if_pos c3]; omega
      · rw [if_neg c3] at h; omega
theorem nst_IP {q : Nat} (h : IP A) (hq : q ≤ n) (h0 : nst T n A q = 0) : IP (adW A (wrd T n q)) := by
  have h1 := nst_0 hq h0
  have hb := wix_b (A := A) (v := wrd T n q)
  have hnw := h.1.nw
  have h8 := h.2.2.2.2.2.2.2.2.2.2.1
  have e2 : oA A (A 6) 2 = A (10 + 12 * A 6 + 2) := rfl
  exact adW_IP h (wrd_ok hq h1.1).1 (by omega) (by omega)
theorem adW_2 (h : IP A) {v : Nat} (h8 : oA A (A 6) 2 < 8) : oA (adW A v) (adW A v 6) 2 = oA A (A 6) 2 + 1 := by
  have a6 := h.2.2.2.2.2.2.1
  have h8' : A (10 + 12 * A 6 + 2) < 8 := h8
  rw [adW_6, adW_r a6 h8' a6 (by omega), if_pos ⟨rfl, rfl⟩]
/-- what becomes of it -/
theorem nml_ok : ∀ f A p, IP A → p ≤ n → 9 - oA A (A 6) 2 ≤ f → (∀ e, (nml T n f A p).1 = some e → 2 ≤ e.1 ∧ e.1 ≤ 4 ∧ e.2 ≤ n) ∧ ((nml T n f A p).1 = none → IP (nml T n f A p).2.1 ∧ 1 ≤ oA (nml T n f A p).2.1 ((nml T n f A p).2.1 6) 2 ∧ p ≤ (nml T n f A p).2.2 ∧ (nml T n f A p).2.2 ≤ n ∧ (nml T n f A p).2.1 6 = A 6) := by
  intro f
  induction f with
  | zero =>
    intro A p h hp hf
    have := h.2.2.2.2.2.2.2.2.2.2.1
    omega
  | succ f ih =>
    intro A p h hp hf
    have hq := rn_b (P := iss T n) hp
    have hb := rn_b (P := isl T n) hq.2
    rw [nml_s]
    by_cases c1 : nst T n A (rn (iss T n) n p) = 0
    · rw [if_pos c1]
      have h1 := nst_IP h hq.2 c1
      have h8 : oA A (A 6) 2 < 8 := by
        have a1 := (nst_0 hq.2 c1).2.1
        have a2 := h.2.2.2.2.2.2.2.2.2.2.1
        have e2 : oA A (A 6) 2 = A (10 + 12 * A 6 + 2) := rfl
        omega
      have h2 := adW_2 h (v := wrd T n (rn (iss T n) n p)) h8
      by_cases c2 : isl T n (rn (iss T n) n (rn (isl T n) n (rn (iss T n) n p))) = true
      · rw [if_pos c2]
        have g := ih _ _ h1 hb.2 (by rw [h2]; omega)
        rw [adW_6] at g
        exact ⟨g.1, fun h => by
          have g2 := g.2 h
          exact ⟨g2.1, g2.2.1, by omega, g2.2.2.2.1, g2.2.2.2.2⟩⟩
      · rw [if_neg c2]
        exact ⟨fun e he => (by cases he), fun _ => ⟨h1, by rw [h2]; omega, by show p ≤ rn (isl T n) n (rn (iss T n) n p); omega, hb.2, adW_6⟩⟩
    · rw [if_neg c1]
      refine ⟨fun e he => ?_, fun h => by cases h⟩
      cases he
      have := nst_b c1
      exact ⟨this.1, this.2, hq.2⟩
end
