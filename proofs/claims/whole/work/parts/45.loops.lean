/-! ===== the words of a segment: the loops ===== -/
theorem rn_idem {P : Nat → Bool} {n p : Nat} (hp : p ≤ n) (hn : P n = false) : rn P n (rn P n p) = rn P n p := by
  have h1 := rn_b (P := P) hp
  have h2 := rn_out (P := P) hp hn
  have h3 := rn_b (P := P) (n := n) (p := rn P n p) h1.2
  rcases Nat.lt_or_ge (rn P n p) (rn P n (rn P n p)) with h | h
  · have := rn_in (P := P) (n := n) (p := rn P n p) (j := rn P n p) (Nat.le_refl _) h
    rw [h2] at this
    cases this
  · omega
section
variable {T : Nat → Nat} {n : Nat} {text : Nat → Int32}
theorem p_nameLoop (hT : TX T n text) {sc : Int32} {ord dur pau : Nat → Int32} {R : Option (Nat × Nat) × (Nat → Nat) × Nat} : ∀ (N m : Nat) (q : Int32 × Int32 × Int32 × Int32 × Int32 × (Nat → Int32) × (Nat → Int32) × (Nat → Int64)),
    (∃ c, q.1 = nI c ∧ c + m ≤ 30 ∧ ((∃ e a', R.1 = some e ∧ ER (some e) q.2.1 q.2.2.1 ∧ q.2.2.2.1 = nI a' ∧ a' ≤ n) ∨ ∃ A p, IP A ∧ p ≤ n ∧ q.2.1 = nI 0 ∧ q.2.2.1 = -nI 1 ∧ q.2.2.2.1 = nI (rn (iss T n) n p) ∧ TR (seA A) sc q.2.2.2.2.1 ord dur pau q.2.2.2.2.2.1 q.2.2.2.2.2.2.1 q.2.2.2.2.2.2.2 ∧ ((isl T n (rn (iss T n) n p) = true ∧ 9 - oA A (A 6) 2 ≤ m ∧ R = nml T n m A p) ∨ (isl T n (rn (iss T n) n p) = false ∧ R = (none, A, p))))) → m < N →
    ∃ ec ea a' wc siz wor nam, wh (fun k q => S_X5_readSegment_64 (nI n) sc ord dur pau text k q.1 q.2.1 q.2.2.1 q.2.2.2.1 q.2.2.2.2.1 q.2.2.2.2.2.1 q.2.2.2.2.2.2.1 q.2.2.2.2.2.2.2) N q = some (ec, ea, nI a', wc, siz, wor, nam) ∧ a' ≤ n ∧ ER R.1 ec ea ∧ (R.1 = none → a' = rn (iss T n) n R.2.2 ∧ TR (seA R.2.1) sc wc ord dur pau siz wor nam) := by
  have hn := hT.1
  refine wh_inv (step := fun k (q : Int32 × Int32 × Int32 × Int32 × Int32 × (Nat → Int32) × (Nat → Int32) × (Nat → Int64)) => S_X5_readSegment_64 (nI n) sc ord dur pau text k q.1 q.2.1 q.2.2.1 q.2.2.2.1 q.2.2.2.2.1 q.2.2.2.2.2.1 q.2.2.2.2.2.2.1 q.2.2.2.2.2.2.2) (fun m (q : Int32 × Int32 × Int32 × Int32 × Int32 × (Nat → Int32) × (Nat → Int32) × (Nat → Int64)) => ∃ c, q.1 = nI c ∧ c + m ≤ 30 ∧ ((∃ e a', R.1 = some e ∧ ER (some e) q.2.1 q.2.2.1 ∧ q.2.2.2.1 = nI a' ∧ a' ≤ n) ∨ ∃ A p, IP A ∧ p ≤ n ∧ q.2.1 = nI 0 ∧ q.2.2.1 = -nI 1 ∧ q.2.2.2.1 = nI (rn (iss T n) n p) ∧ TR (seA A) sc q.2.2.2.2.1 ord dur pau q.2.2.2.2.2.1 q.2.2.2.2.2.2.1 q.2.2.2.2.2.2.2 ∧ ((isl T n (rn (iss T n) n p) = true ∧ 9 - oA A (A 6) 2 ≤ m ∧ R = nml T n m A p) ∨ (isl T n (rn (iss T n) n p) = false ∧ R = (none, A, p))))) (fun (o : Option (Int32 × Int32 × Int32 × Int32 × (Nat → Int32) × (Nat → Int32) × (Nat → Int64))) => ∃ ec ea a' wc siz wor nam, o = some (ec, ea, nI a', wc, siz, wor, nam) ∧ a' ≤ n ∧ ER R.1 ec ea ∧ (R.1 = none → a' = rn (iss T n) n R.2.2 ∧ TR (seA R.2.1) sc wc ord dur pau siz wor nam)) (fun m q hI k hk => ?_)
  obtain ⟨l, ec, ea, at_, wc, siz, wor, nam⟩ := q
  obtain ⟨c, h1, h2, h3⟩ := hI
  have h1 : l = nI c := h1
  subst h1
  show ∃ ec' ea' a' wc' siz' wor' nam', S_X5_readSegment_64 (nI n) sc ord dur pau text k (nI c) ec ea at_ wc siz wor nam = _ ∧ _
  unfold S_X5_readSegment_64
  rw [if_neg (show ¬ (900 : Int32) ≤ nI c from fun h => by have := (nI_leI (a := 900) (by omega) (by omega)).mp h; omega)]
  rcases h3 with ⟨e, a', g1, g2, g3, g4⟩ | ⟨A, p, g1, g2, g3, g4, g5, g6, g7⟩
  · have g3 : at_ = nI a' := g3
    have e0 : ¬ ec = (0 : Int32) := by
      have : ec = -nI e.1 := g2.2.2.2.1
      rw [this]; exact ng_0 e.1 (by have := g2.2.1; omega) g2.1
    rw [if_neg e0]
    refine ⟨ec, ea, a', wc, siz, wor, nam, by rw [g3], g4, by rw [g1]; exact g2, fun h => by rw [g1] at h; cases h⟩
  · have g3 : ec = nI 0 := g3
    have g4 : ea = -nI 1 := g4
    have g5 : at_ = nI (rn (iss T n) n p) := g5
    subst g3; subst g4; subst g5
    have hq := rn_b (P := iss T n) g2
    have idem := rn_idem (P := iss T n) g2 iss_n
    rw [if_pos (show nI 0 = (0 : Int32) from rfl), p_isLetter hT hq.2, ob1_some]
    rcases g7 with ⟨c1, c2, c3⟩ | ⟨c1, c2⟩
    · rw [bI_1 c1, if_neg (show ¬ nI 1 = (0 : Int32) by decide)]
      obtain ⟨ec', ea', p', wc', siz', wor', nam', f1, f2, f3, f4⟩ := p_readName hT g1 g6 hq.2
      rw [idem] at f3 f4
      rw [f1, ob7_some, p_skipSpaces hT f2, ob1_some]
      have h8 := g1.2.2.2.2.2.2.2.2.2.2.1
      obtain ⟨m, rfl⟩ : ∃ m', m = m' + 1 := ⟨m - 1, by omega⟩
      rw [nml_s] at c3
      have e1 : nI c + (1 : Int32) = nI (c + 1) := nI_add c 1
      rw [e1]
      by_cases c4 : nst T n A (rn (iss T n) n p) = 0
      · have f5 := f4 c4
        rw [c4] at f3
        obtain ⟨f6, f7⟩ := f3
        rw [if_pos c4] at c3
        have hq2 := rn_b (P := isl T n) hq.2
        have k8 : oA A (A 6) 2 < 8 := by
          have b1 := (nst_0 hq.2 c4).2.1
          have e2 : oA A (A 6) 2 = A (10 + 12 * A 6 + 2) := rfl
          omega
        have k9 := adW_2 g1 (v := wrd T n (rn (iss T n) n p)) k8
        refine hk m _ (by omega) ⟨c + 1, rfl, by omega, Or.inr ⟨adW A (wrd T n (rn (iss T n) n p)), p', nst_IP g1 hq.2 c4, f2, f6, f7, rfl, f5.2, ?_⟩⟩
        rw [f5.1]
        by_cases c5 : isl T n (rn (iss T n) n (rn (isl T n) n (rn (iss T n) n p))) = true
        · rw [if_pos c5] at c3
          exact Or.inl ⟨c5, by rw [k9]; omega, c3⟩
        · rw [if_neg c5] at c3
          exact Or.inr ⟨by simpa using c5, c3⟩
      · rw [if_neg c4] at c3
        have f8 := rn_b (P := iss T n) f2
        have e9 : erj none (nst T n A (rn (iss T n) n p)) (rn (iss T n) n p) = some (nst T n A (rn (iss T n) n p), rn (iss T n) n p) := if_neg c4
        rw [e9] at f3
        exact hk m _ (by omega) ⟨c + 1, rfl, by omega, Or.inl ⟨(nst T n A (rn (iss T n) n p), rn (iss T n) n p), rn (iss T n) n p', by rw [c3], f3, rfl, f8.2⟩⟩
    · rw [bI_0 (by rw [c1]; decide), if_pos (show nI 0 = (0 : Int32) from rfl)]
      exact ⟨nI 0, -nI 1, rn (iss T n) n p, wc, siz, wor, nam, rfl, hq.2, by rw [c2]; exact ⟨rfl, rfl⟩, fun _ => by rw [c2]; exact ⟨rfl, g6⟩⟩
theorem q_nameLoop (hT : TX T n text) {m0 : Nat} (hm0 : m0 < 32) {R : Option (Nat × Nat) × (Nat → Nat) × Nat} : ∀ (N m : Nat) (q : Int32 × Int32 × Int32 × Int32 × Int32 × Int32 × Int64 × (Nat → Int64)),
    (q.2.2.2.2.1 = nI 0 ∧ ∃ A p, IP A ∧ A 6 = m0 ∧ TKR T n p q.2.1 q.2.2.1 q.2.2.2.1 q.2.2.2.2.2.2.1 ∧ MR A q.2.2.2.2.2.2.2 ∧ ((q.1 = nI 1 ∧ 9 - oA A (A 6) 2 ≤ m ∧ R = nml T n m A p) ∨ (q.1 = nI 0 ∧ R = (none, A, p)))) → m < N →
    ∃ at_ be kd wr wa num fr, ((∃ e, R.1 = some e ∧ wh (fun k q => S_X11_readsSegment_93 (nI (10 + 12 * m0)) (nI n) text k q.1 q.2.1 q.2.2.1 q.2.2.2.1 q.2.2.2.2.1 q.2.2.2.2.2.1 q.2.2.2.2.2.2.1 q.2.2.2.2.2.2.2) N q = some (.inl (at_, be, kd, wr, wa, num, fr)) ∧ RE (some e) wr wa) ∨ (R.1 = none ∧ wh (fun k q => S_X11_readsSegment_93 (nI (10 + 12 * m0)) (nI n) text k q.1 q.2.1 q.2.2.1 q.2.2.2.1 q.2.2.2.2.1 q.2.2.2.2.2.1 q.2.2.2.2.2.2.1 q.2.2.2.2.2.2.2) N q = some (.inr (at_, be, kd, wr, wa, num, fr)) ∧ wr = nI 0 ∧ TKR T n R.2.2 at_ be kd num ∧ MR R.2.1 fr)) := by
  have hn := hT.1
  refine wh_inv (step := fun k (q : Int32 × Int32 × Int32 × Int32 × Int32 × Int32 × Int64 × (Nat → Int64)) => S_X11_readsSegment_93 (nI (10 + 12 * m0)) (nI n) text k q.1 q.2.1 q.2.2.1 q.2.2.2.1 q.2.2.2.2.1 q.2.2.2.2.2.1 q.2.2.2.2.2.2.1 q.2.2.2.2.2.2.2) (fun m (q : Int32 × Int32 × Int32 × Int32 × Int32 × Int32 × Int64 × (Nat → Int64)) => q.2.2.2.2.1 = nI 0 ∧ ∃ A p, IP A ∧ A 6 = m0 ∧ TKR T n p q.2.1 q.2.2.1 q.2.2.2.1 q.2.2.2.2.2.2.1 ∧ MR A q.2.2.2.2.2.2.2 ∧ ((q.1 = nI 1 ∧ 9 - oA A (A 6) 2 ≤ m ∧ R = nml T n m A p) ∨ (q.1 = nI 0 ∧ R = (none, A, p)))) (fun (o : Option ((Int32 × Int32 × Int32 × Int32 × Int32 × Int64 × (Nat → Int64)) ⊕ (Int32 × Int32 × Int32 × Int32 × Int32 × Int64 × (Nat → Int64)))) => ∃ at_ be kd wr wa num fr, ((∃ e, R.1 = some e ∧ o = some (.inl (at_, be, kd, wr, wa, num, fr)) ∧ RE (some e) wr wa) ∨ (R.1 = none ∧ o = some (.inr (at_, be, kd, wr, wa, num, fr)) ∧ wr = nI 0 ∧ TKR T n R.2.2 at_ be kd num ∧ MR R.2.1 fr))) (fun m q hI k hk => ?_)
  obtain ⟨more, at_, be, kd, wr, wa, num, fr⟩ := q
  obtain ⟨h1, A, p, g1, g2, g3, g4, g5⟩ := hI
  have h1 : wr = nI 0 := h1
  subst h1
  have g3 : TKR T n p at_ be kd num := g3
  have g4 : MR A fr := g4
  show ∃ at_' be' kd' wr' wa' num' fr', ((∃ e, R.1 = some e ∧ S_X11_readsSegment_93 (nI (10 + 12 * m0)) (nI n) text k more at_ be kd (nI 0) wa num fr = _ ∧ _) ∨ (R.1 = none ∧ S_X11_readsSegment_93 (nI (10 + 12 * m0)) (nI n) text k more at_ be kd (nI 0) wa num fr = _ ∧ _))
  rcases g5 with ⟨c1, c2, c3⟩ | ⟨c1, c2⟩
  · have c1 : more = nI 1 := c1
    subst c1
    obtain ⟨r, at', be', kd', wr', wa', num', a', f1, f2, f3⟩ := q_takesWord (wa := wa) hT g4 g1 g3
    have hp := g3.1
    have hq := rn_b (P := iss T n) hp
    have h8 := g1.2.2.2.2.2.2.2.2.2.2.1
    have hnw := g1.1.nw
    obtain ⟨m, rfl⟩ : ∃ m', m = m' + 1 := ⟨m - 1, by omega⟩
    rw [nml_s] at c3
    have hmr : fr (10 + 12 * m0 + 2) = lN (A (10 + 12 * m0 + 2)) := g4 (10 + 12 * m0 + 2) (by omega)
    rw [g2] at f1
    have e0 : F_X11_takesWord (fr (10 + 12 * m0 + 2)) (nI n) at_ be kd (nI 0) wa num fr text = some (r, at', be', kd', wr', wa', num', a') := by rw [hmr]; exact f1
    have hit : nI (10 + 12 * m0) + (2 : Int32) = nI (10 + 12 * m0 + 2) := nI_add (10 + 12 * m0) 2
    have hit3 : nI (10 + 12 * m0) + (3 : Int32) = nI (10 + 12 * m0 + 3) := nI_add (10 + 12 * m0) 3
    unfold S_X11_readsSegment_93
    rw [if_neg (show ¬ nI 1 = (0 : Int32) by decide), hit, gi_n (by omega) (by omega), nI_clamp (by omega), e0, ob8_some]
    by_cases c4 : nst T n A (rn (iss T n) n p) = 0
    · obtain ⟨f4, f5, f6⟩ := f3 c4
      rw [c4] at f2
      have f2 : wr' = nI 0 := f2
      subst f2; subst f4
      rw [if_pos c4] at c3
      have k8 : oA A (A 6) 2 < 8 := by
        have b1 := (nst_0 hq.2 c4).2.1
        have e2 : oA A (A 6) 2 = A (10 + 12 * A 6 + 2) := rfl
        omega
      have k8' : A (10 + 12 * m0 + 2) < 8 := by rw [← g2]; exact k8
      have k9 := adW_2 g1 (v := wrd T n (rn (iss T n) n p)) k8
      have hwb := wix_b (A := A) (v := wrd T n (rn (iss T n) n p))
      have e3 : a' (10 + 12 * m0 + 2) = lN (A (10 + 12 * m0 + 2)) := by rw [f6 _ (by omega), adN_n (by omega) (by omega)]
      have e4 : MR (adW A (wrd T n (rn (iss T n) n p))) (vp_updL (vp_updL a' (10 + 12 * m0 + 3 + A (10 + 12 * m0 + 2)) (lN (wix A (wrd T n (rn (iss T n) n p))))) (10 + 12 * m0 + 2) (lN (A (10 + 12 * m0 + 2) + 1))) := by
        unfold adW
        rw [g2, show 10 + 12 * m0 + (3 + A (10 + 12 * m0 + 2)) = 10 + 12 * m0 + 3 + A (10 + 12 * m0 + 2) by omega]
        exact f6.u.u
      have e5 : nI (10 + 12 * m0 + 3) + (lN (A (10 + 12 * m0 + 2))).toInt32 = nI (10 + 12 * m0 + 3 + A (10 + 12 * m0 + 2)) := by rw [lN_i, nI_add]
      have e6 : vp_updL a' (10 + 12 * m0 + 3 + A (10 + 12 * m0 + 2)) (lN (wix A (wrd T n (rn (iss T n) n p)))) (10 + 12 * m0 + 2) + (1 : Int64) = lN (A (10 + 12 * m0 + 2) + 1) := by
        rw [pk_uLn (by omega), e3]; exact lN_add _ 1
      rw [if_pos (show nI 0 = (0 : Int32) from rfl), gi_n (by omega) (by omega), e3, hit3, e5, gi_n (by omega) (by omega), gi_n (by omega) (by omega), gi_n (by omega) (by omega), nI_clamp (by omega), nI_l (by omega), e6]
      have hb := rn_b (P := isl T n) hq.2
      have hkd := f5.2.2.2.1
      have nx : ∀ q6 : Nat, q6 = m0 → True := fun _ _ => trivial
      by_cases c5 : isl T n (rn (iss T n) n (rn (isl T n) n (rn (iss T n) n p))) = true
      · rw [if_pos c5] at c3
        have e7 : kd' = (0 : Int32) := by rw [hkd, (tkd_l c5).1]; rfl
        rw [if_pos e7]
        exact hk m _ (by omega) ⟨rfl, adW A (wrd T n (rn (iss T n) n p)), _, nst_IP g1 hq.2 c4, by rw [adW_6, g2], f5, e4, Or.inl ⟨rfl, by rw [k9]; omega, c3⟩⟩
      · rw [if_neg c5] at c3
        have e7 : ¬ kd' = (0 : Int32) := by rw [hkd]; exact tkd_nl (by simpa using c5)
        rw [if_neg e7]
        exact hk m _ (by omega) ⟨rfl, adW A (wrd T n (rn (iss T n) n p)), _, nst_IP g1 hq.2 c4, by rw [adW_6, g2], f5, e4, Or.inr ⟨rfl, c3⟩⟩
    · rw [if_neg c4] at c3
      have e9 : erj none (nst T n A (rn (iss T n) n p)) (rn (iss T n) n p) = some (nst T n A (rn (iss T n) n p), rn (iss T n) n p) := if_neg c4
      rw [e9] at f2
      have hno := f2.no (by intro h; cases h)
      rw [if_neg hno]
      exact ⟨at', be', kd', wr', wa', num', a', Or.inl ⟨_, by rw [c3], rfl, f2⟩⟩
  · have c1 : more = nI 0 := c1
    subst c1
    refine ⟨at_, be, kd, nI 0, wa, num, fr, Or.inr ⟨by rw [c2], ?_, rfl, by rw [c2]; exact g3, by rw [c2]; exact g4⟩⟩
    unfold S_X11_readsSegment_93
    exact if_pos rfl
end
