/-! ===== one statement, by both ===== -/
section
variable {T : Nat → Nat} {n : Nat} {text : Nat → Int32} {A : Nat → Nat} {a : Nat → Int64} {sc wc ns : Int32} {ord dur pau siz wor wi le re set : Nat → Int32} {nam : Nat → Int64}
theorem nml_keep : ∀ f A p, IP A → p ≤ n → 9 - oA A (A 6) 2 ≤ f → ∀ j, (j < 6 ∨ j = 8 ∨ (394 ≤ j ∧ j < 475)) → (nml T n f A p).2.1 j = A j := by
  intro f
  induction f with
  | zero => intro A p _ _ _ j _; rfl
  | succ f ih =>
    intro A p h hp hf j hj
    have hq := rn_b (P := iss T n) hp
    have hb := rn_b (P := isl T n) hq.2
    rw [nml_s]
    by_cases c1 : nst T n A (rn (iss T n) n p) = 0
    · rw [if_pos c1]
      have h1 := nst_IP h hq.2 c1
      have a2 := h.2.2.2.2.2.2.2.2.2.2.1
      have a6 := h.2.2.2.2.2.2.1
      have h8 : oA A (A 6) 2 < 8 := by
        have a1 := (nst_0 hq.2 c1).2.1
        have e2 : oA A (A 6) 2 = A (10 + 12 * A 6 + 2) := rfl
        omega
      have e2 : oA A (A 6) 2 = A (10 + 12 * A 6 + 2) := rfl
      have hk : adW A (wrd T n (rn (iss T n) n p)) j = A j := by
        unfold adW
        rw [uA_n (by omega), uA_n (by omega), adN_n (by omega) (by omega)]
      have h2 := adW_2 h (v := wrd T n (rn (iss T n) n p)) h8
      by_cases c2 : isl T n (rn (iss T n) n (rn (isl T n) n (rn (iss T n) n p))) = true
      · rw [if_pos c2, ih _ _ h1 hb.2 (by rw [h2]; omega) j hj]
        exact hk
      · rw [if_neg c2]
        exact hk
    · rw [if_neg c1]
theorem sg1_keep (h : VP A) (h32 : A 6 < 32) {p : Nat} (hp : p ≤ n) (hno : (sg1 T n A p).1 = none) : ∀ j, (j < 6 ∨ j = 8 ∨ (394 ≤ j ∧ j < 475)) → (sg1 T n A p).2.1 j = A j := by
  intro j hj
  have hI := sg0_IP (T := T) (n := n) (p := p) h h32
  have n1 := nend_b (T := T) hp
  have n2 := nend_b (T := T) n1.2
  have hk := nml_keep (T := T) 9 _ _ hI n2.2 (by omega) j hj
  have hok := nml_ok (T := T) 9 _ _ hI n2.2 (by omega)
  have hs6 : sg0 T n A p 6 = A 6 := by
    unfold sg0
    rw [uA_n (by omega), uA_n (by omega)]
  unfold sg1 at hno ⊢
  generalize nml T n 9 (sg0 T n A p) (nend T n (nend T n p)) = R at hk hok hno ⊢
  have h2 := (hok.2 (orr_no hno).2).2.2.2.2
  show seA R.2.1 j = A j
  rw [se_n (by omega) (by omega) (by rw [h2, hs6]; omega), hk]
  unfold sg0
  rw [uA_n (by omega), uA_n (by omega)]
theorem w_cmp {v c : Nat} (hv : v < 1099511627776) (hc : c < 1099511627776) : (lg_cmp (lN v) (lN c) = (0 : Int32)) = (v = c) := by
  refine propext ⟨fun h => ?_, fun h => ?_⟩
  · exact (lN_40 hv hc).mp ((lc_eq (lN v) (lN c)).mp h)
  · subst h; exact (lc_eq (lN v) (lN v)).mpr rfl
theorem wrd_lt {q : Nat} (hq : q ≤ n) : wrd T n q < 1099511627776 := by
  by_cases c : wrd T n q = 0
  · omega
  · exact (nmOK_8 (wrd_ok hq c).1).2
theorem p_stm (hT : TX T n text) (h : VP A) (hC : TR A sc wc ord dur pau siz wor nam) (hQ : QR A ns wi le re) (hS : SR A set) {q : Nat} (hq : q ≤ n) :
    ∃ ec ea a' sc' wc' ord' dur' pau' siz' wor' nam' ns' wi' le' re' set', F_X5_readStatement (nI 0) (-nI 1) (nI n) (nI q) sc wc ord dur pau siz wor nam ns wi le re set text = some (ec, ea, nI a', sc', wc', ord', dur', pau', siz', wor', nam', ns', wi', le', re', set') ∧ a' ≤ n ∧ ER (stm T n A q).1 ec ea ∧ ((stm T n A q).1 = none → rn (iss T n) n a' = rn (iss T n) n (stm T n A q).2.2 ∧ TR (stm T n A q).2.1 sc' wc' ord' dur' pau' siz' wor' nam' ∧ QR (stm T n A q).2.1 ns' wi' le' re' ∧ SR (stm T n A q).2.1 set') := by
  have hn := hT.1
  have hV := h.1
  have hn6 := hV.n
  have hl8 := hV.nl
  have hE0 : ER none (nI 0) (-nI 1) := ⟨rfl, rfl⟩
  have hb := rn_b (P := isl T n) hq
  have hw := wrd_lt (T := T) hq
  have n1 := nend_b (T := T) hb.2
  have n2 := nend_b (T := T) n1.2
  have n3 := nend_b (T := T) n2.2
  have c1 : (lg_cmp (lN (wrd T n q)) (19623 : Int64) = (0 : Int32)) = (wrd T n q = 19623) := w_cmp (c := 19623) hw (by omega)
  have c2 : (lg_cmp (lN (wrd T n q)) (635380 : Int64) = (0 : Int32)) = (wrd T n q = 635380) := w_cmp (c := 635380) hw (by omega)
  have c3 : (lg_cmp (lN (wrd T n q)) (19636 : Int64) = (0 : Int32)) = (wrd T n q = 19636) := w_cmp (c := 19636) hw (by omega)
  unfold F_X5_readStatement stm
  rw [p_readWord hT hq, ob2_some]
  by_cases d1 : wrd T n q = 19623
  · rw [if_pos (c1.mpr d1), if_pos d1]
    by_cases d2 : A 6 = 32
    · rw [if_pos d2]
      obtain ⟨ec, ea, f1, f2⟩ := p_fail hE0 (c := 4) (p := q) (by omega) (by omega) (by omega)
      have f1 : F_X5_fail (-4 : Int32) (nI q) (nI 0) (-nI 1) = some (ec, ea) := f1
      unfold F_X5_readSegment
      have hsc := hC.1
      rw [if_neg (show ¬ sc < (32 : Int32) by rw [hsc]; exact fun h => by have := (nI_ltI (b := 32) (by omega) (by omega)).mp h; omega), f1, ob2_some, ob11_s rfl]
      exact ⟨_, _, _, _, _, _, _, _, _, _, _, _, _, _, _, _, rfl, hb.2, f2, fun h => (by cases h)⟩
    · rw [if_neg d2]
      obtain ⟨ec, ea, a', sc', wc', ord', dur', pau', siz', wor', nam', f1, f2, f3, f4⟩ := p_segS (q := q) hT h d2 hC hb.2
      have hk := sg1_keep (T := T) h (show A 6 < 32 by omega) hb.2
      have hst := stm_ok (T := T) h hq hn
      unfold stm at hst
      rw [if_pos d1, if_neg d2] at hst
      generalize sg1 T n A (rn (isl T n) n q) = X at *
      rw [ob11_s f1]
      refine ⟨_, _, _, _, _, _, _, _, _, _, _, _, _, _, _, _, rfl, f2, f3, fun h => ⟨?_, (f4 h).2, QR.congr hV (hk h 8 (by omega)) (fun j h1 h2 => hk h j (by omega)) hQ, SR.congr (fun j hj => hk h j (by omega)) hS⟩⟩
      rw [(f4 h).1]
      exact rn_idem (hst h).2.2 iss_n
  · rw [if_neg (fun h => d1 (c1.mp h)), if_neg d1]
    by_cases d2 : wrd T n q = 635380
    · rw [if_pos (c2.mpr d2), if_pos d2]
      by_cases d3 : A 8 = 5
      · rw [if_pos d3]
        obtain ⟨ec, ea, f1, f2⟩ := p_fail hE0 (c := 4) (p := q) (by omega) (by omega) (by omega)
        have f1 : F_X5_fail (-4 : Int32) (nI q) (nI 0) (-nI 1) = some (ec, ea) := f1
        unfold F_X5_readSlot
        have hns := hQ.1
        rw [if_neg (show ¬ ns < (5 : Int32) by rw [hns]; exact fun h => by have := (nI_ltI (b := 5) (by omega) (by omega)).mp h; omega), f1, ob2_some, ob7_s rfl]
        exact ⟨_, _, _, _, _, _, _, _, _, _, _, _, _, _, _, _, rfl, hb.2, f2, fun h => (by cases h)⟩
      · rw [if_neg d3]
        obtain ⟨ec, ea, a', ns', wi', le', re', f1, f2, f3, f4, f5⟩ := p_slotS (q := q) hT h d3 hQ hb.2
        rw [ob7_s f1]
        have hp := plw_le A (nvl T n 0 9999 (rn (isl T n) n q)) (A 8)
        have e := fun j => is_n (A := A) (p := plw A (nvl T n 0 9999 (rn (isl T n) n q)) (A 8)) (w := nvl T n 0 9999 (rn (isl T n) n q)) (l := nvl T n 1 300 (nend T n (rn (isl T n) n q))) (r := nvl T n 0 999 (nend T n (nend T n (rn (isl T n) n q)))) (j := j) (by omega) hp
        refine ⟨_, _, _, _, _, _, _, _, _, _, _, _, _, _, _, _, rfl, f2, f3, fun _ => ⟨by rw [f4], ?_, f5, ?_⟩⟩
        · exact TR.congr hV (e 6 (by omega) (by omega)) (e 7 (by omega) (by omega)) (fun j h1 h2 => e j (by omega) (by omega)) (fun j h1 h2 => e j (by omega) (by omega)) hC
        · exact SR.congr (fun j hj => e j (by omega) (by omega)) hS
    · rw [if_neg (fun h => d2 (c2.mp h)), if_neg d2]
      by_cases d3 : wrd T n q = 19636
      · rw [if_pos (c3.mpr d3), if_pos d3]
        obtain ⟨ec, ea, a', set', f1, f2, f3, f4, f5⟩ := p_settingS hT h hS hb.2
        rw [ob4_s f1]
        have v1 := nvl_b (T := T) (n := n) (p := rn (isl T n) n q) (lo := 0) (hi := 5) (by omega)
        have e : ∀ j, 6 ≤ j → uA A (nvl T n 0 5 (rn (isl T n) n q)) (nvl T n (slo (nvl T n 0 5 (rn (isl T n) n q))) (shi (nvl T n 0 5 (rn (isl T n) n q))) (nend T n (rn (isl T n) n q))) j = A j := fun j hj => uA_n (by omega)
        refine ⟨_, _, _, _, _, _, _, _, _, _, _, _, _, _, _, _, rfl, f2, f3, fun _ => ⟨by rw [f4], ?_, ?_, f5⟩⟩
        · exact TR.congr hV (e 6 (by omega)) (e 7 (by omega)) (fun j h1 h2 => e j (by omega)) (fun j h1 h2 => e j (by omega)) hC
        · exact QR.congr hV (e 8 (by omega)) (fun j h1 h2 => e j (by omega)) hQ
      · rw [if_neg (fun h => d3 (c3.mp h)), if_neg d3]
        obtain ⟨ec, ea, f1, f2⟩ := p_fail hE0 (c := 2) (p := q) (by omega) (by omega) (by omega)
        have f1 : F_X5_fail (-2 : Int32) (nI q) (nI 0) (-nI 1) = some (ec, ea) := f1
        rw [f1, ob2_some]
        exact ⟨_, _, _, _, _, _, _, _, _, _, _, _, _, _, _, _, rfl, hb.2, f2, fun h => (by cases h)⟩
/-- the program of a text -/
def prg (T : Nat → Nat) (n : Nat) : Nat → (Nat → Nat) → Nat → Option (Nat × Nat) × (Nat → Nat)
  | 0, A, _ => (none, A)
  | f + 1, A, p => if n ≤ rn (iss T n) n p then (none, A) else if (sem T n (stm T n A (rn (iss T n) n p))).1.isNone = true then prg T n f (sem T n (stm T n A (rn (iss T n) n p))).2.1 (sem T n (stm T n A (rn (iss T n) n p))).2.2 else ((sem T n (stm T n A (rn (iss T n) n p))).1, A)
theorem prg_s (T : Nat → Nat) (n f : Nat) (A : Nat → Nat) (p : Nat) : prg T n (f + 1) A p = if n ≤ rn (iss T n) n p then (none, A) else if (sem T n (stm T n A (rn (iss T n) n p))).1.isNone = true then prg T n f (sem T n (stm T n A (rn (iss T n) n p))).2.1 (sem T n (stm T n A (rn (iss T n) n p))).2.2 else ((sem T n (stm T n A (rn (iss T n) n p))).1, A) := rfl
theorem sem_ok (h : VP A) {q : Nat} (hq : q ≤ n) (hn : n ≤ 900) (h0 : (sem T n (stm T n A q)).1 = none) : VP (sem T n (stm T n A q)).2.1 ∧ q < (sem T n (stm T n A q)).2.2 ∧ (sem T n (stm T n A q)).2.2 ≤ n := by
  have h1 := erj_no h0
  have h2 := stm_ok (T := T) h hq hn h1.1
  have h3 := rn_b (P := iss T n) h2.2.2
  refine ⟨h2.1, ?_, ?_⟩
  · show q < rn (iss T n) n (stm T n A q).2.2 + 1
    omega
  · show rn (iss T n) n (stm T n A q).2.2 + 1 ≤ n
    have h4 := h1.2
    unfold smc at h4
    by_cases c : rn (iss T n) n (stm T n A q).2.2 < n ∧ T (rn (iss T n) n (stm T n A q).2.2) = 59
    · omega
    · rw [if_neg c] at h4; omega
theorem prg_ok : ∀ f A p, VP A → p ≤ n → n ≤ 900 → (prg T n f A p).1 = none → VP (prg T n f A p).2 := by
  intro f
  induction f with
  | zero => intro A p h _ _ _; exact h
  | succ f ih =>
    intro A p h hp hn h0
    have hq := rn_b (P := iss T n) hp
    rw [prg_s] at h0 ⊢
    by_cases c1 : n ≤ rn (iss T n) n p
    · rw [if_pos c1]; exact h
    · rw [if_neg c1] at h0 ⊢
      have g := sem_ok (T := T) h hq.2 hn
      generalize sem T n (stm T n A (rn (iss T n) n p)) = Y at *
      cases hY : Y.1 with
      | none =>
        rw [if_pos (show (none : Option (Nat × Nat)).isNone = true from rfl)]
        rw [hY, if_pos (show (none : Option (Nat × Nat)).isNone = true from rfl)] at h0
        have g2 := g hY
        exact ih _ _ g2.1 g2.2.2 hn h0
      | some e =>
        rw [hY, if_neg (show ¬ (some e : Option (Nat × Nat)).isNone = true from Bool.false_ne_true)] at h0
        cases h0
end
