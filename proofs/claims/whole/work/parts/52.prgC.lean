/-! ===== the program's loop, by the class ===== -/
section
variable {T : Nat → Nat} {n : Nat} {text : Nat → Int32}
def OKC (R : Option (Nat × Nat) × (Nat → Nat)) (o : Option (Int32 × Int32 × Int32 × Int32 × Int32 × (Nat → Int32) × (Nat → Int32) × (Nat → Int32) × (Nat → Int32) × (Nat → Int32) × (Nat → Int64) × Int32 × (Nat → Int32) × (Nat → Int32) × (Nat → Int32) × (Nat → Int32))) : Prop := ∃ ec ea at_ sc wc ord dur pau siz wor nam ns wi le re set, o = some (ec, ea, at_, sc, wc, ord, dur, pau, siz, wor, nam, ns, wi, le, re, set) ∧ ER R.1 ec ea ∧ (R.1 = none → TR R.2 sc wc ord dur pau siz wor nam ∧ QR R.2 ns wi le re ∧ SR R.2 set)
theorem prg_end {m : Nat} {A : Nat → Nat} {p : Nat} (h : n ≤ rn (iss T n) n p) : prg T n m A p = (none, A) := by
  cases m with
  | zero => rfl
  | succ m => rw [prg_s, if_pos h]
theorem smc_rn {p q : Nat} (h : rn (iss T n) n p = rn (iss T n) n q) : smc T n p = smc T n q := by
  unfold smc; rw [h]
theorem erj_some {e : Nat × Nat} {c p : Nat} : erj (some e) c p = some e := rfl
theorem p_prgLoop (hT : TX T n text) {R : Option (Nat × Nat) × (Nat → Nat)} : ∀ (N m : Nat) (q : Int32 × Int32 × Int32 × Int32 × Int32 × Int32 × (Nat → Int32) × (Nat → Int32) × (Nat → Int32) × (Nat → Int32) × (Nat → Int32) × (Nat → Int64) × Int32 × (Nat → Int32) × (Nat → Int32) × (Nat → Int32) × (Nat → Int32)), (∃ c, q.1 = nI c ∧ c ≤ 900 ∧ ((∃ e, R.1 = some e ∧ ER (some e) q.2.1 q.2.2.1) ∨ ∃ A p, VP A ∧ c ≤ p ∧ p ≤ n ∧ q.2.1 = nI 0 ∧ q.2.2.1 = -nI 1 ∧ q.2.2.2.1 = nI (rn (iss T n) n p) ∧ TR A q.2.2.2.2.1 q.2.2.2.2.2.1 q.2.2.2.2.2.2.1 q.2.2.2.2.2.2.2.1 q.2.2.2.2.2.2.2.2.1 q.2.2.2.2.2.2.2.2.2.1 q.2.2.2.2.2.2.2.2.2.2.1 q.2.2.2.2.2.2.2.2.2.2.2.1 ∧ QR A q.2.2.2.2.2.2.2.2.2.2.2.2.1 q.2.2.2.2.2.2.2.2.2.2.2.2.2.1 q.2.2.2.2.2.2.2.2.2.2.2.2.2.2.1 q.2.2.2.2.2.2.2.2.2.2.2.2.2.2.2.1 ∧ SR A q.2.2.2.2.2.2.2.2.2.2.2.2.2.2.2.2 ∧ R = prg T n m A p ∧ n + 1 - p ≤ m)) → m < N → OKC R (wh (fun k (q : Int32 × Int32 × Int32 × Int32 × Int32 × Int32 × (Nat → Int32) × (Nat → Int32) × (Nat → Int32) × (Nat → Int32) × (Nat → Int32) × (Nat → Int64) × Int32 × (Nat → Int32) × (Nat → Int32) × (Nat → Int32) × (Nat → Int32)) => S_X5_readShow_45 (0 : Int32) (nI n) (nI 0) text k q.1 q.2.1 q.2.2.1 q.2.2.2.1 q.2.2.2.2.1 q.2.2.2.2.2.1 q.2.2.2.2.2.2.1 q.2.2.2.2.2.2.2.1 q.2.2.2.2.2.2.2.2.1 q.2.2.2.2.2.2.2.2.2.1 q.2.2.2.2.2.2.2.2.2.2.1 q.2.2.2.2.2.2.2.2.2.2.2.1 q.2.2.2.2.2.2.2.2.2.2.2.2.1 q.2.2.2.2.2.2.2.2.2.2.2.2.2.1 q.2.2.2.2.2.2.2.2.2.2.2.2.2.2.1 q.2.2.2.2.2.2.2.2.2.2.2.2.2.2.2.1 q.2.2.2.2.2.2.2.2.2.2.2.2.2.2.2.2) N q) := by
  have hn := hT.1
  refine wh_inv (step := fun k (q : Int32 × Int32 × Int32 × Int32 × Int32 × Int32 × (Nat → Int32) × (Nat → Int32) × (Nat → Int32) × (Nat → Int32) × (Nat → Int32) × (Nat → Int64) × Int32 × (Nat → Int32) × (Nat → Int32) × (Nat → Int32) × (Nat → Int32)) => S_X5_readShow_45 (0 : Int32) (nI n) (nI 0) text k q.1 q.2.1 q.2.2.1 q.2.2.2.1 q.2.2.2.2.1 q.2.2.2.2.2.1 q.2.2.2.2.2.2.1 q.2.2.2.2.2.2.2.1 q.2.2.2.2.2.2.2.2.1 q.2.2.2.2.2.2.2.2.2.1 q.2.2.2.2.2.2.2.2.2.2.1 q.2.2.2.2.2.2.2.2.2.2.2.1 q.2.2.2.2.2.2.2.2.2.2.2.2.1 q.2.2.2.2.2.2.2.2.2.2.2.2.2.1 q.2.2.2.2.2.2.2.2.2.2.2.2.2.2.1 q.2.2.2.2.2.2.2.2.2.2.2.2.2.2.2.1 q.2.2.2.2.2.2.2.2.2.2.2.2.2.2.2.2) (fun m (q : Int32 × Int32 × Int32 × Int32 × Int32 × Int32 × (Nat → Int32) × (Nat → Int32) × (Nat → Int32) × (Nat → Int32) × (Nat → Int32) × (Nat → Int64) × Int32 × (Nat → Int32) × (Nat → Int32) × (Nat → Int32) × (Nat → Int32)) => ∃ c, q.1 = nI c ∧ c ≤ 900 ∧ ((∃ e, R.1 = some e ∧ ER (some e) q.2.1 q.2.2.1) ∨ ∃ A p, VP A ∧ c ≤ p ∧ p ≤ n ∧ q.2.1 = nI 0 ∧ q.2.2.1 = -nI 1 ∧ q.2.2.2.1 = nI (rn (iss T n) n p) ∧ TR A q.2.2.2.2.1 q.2.2.2.2.2.1 q.2.2.2.2.2.2.1 q.2.2.2.2.2.2.2.1 q.2.2.2.2.2.2.2.2.1 q.2.2.2.2.2.2.2.2.2.1 q.2.2.2.2.2.2.2.2.2.2.1 q.2.2.2.2.2.2.2.2.2.2.2.1 ∧ QR A q.2.2.2.2.2.2.2.2.2.2.2.2.1 q.2.2.2.2.2.2.2.2.2.2.2.2.2.1 q.2.2.2.2.2.2.2.2.2.2.2.2.2.2.1 q.2.2.2.2.2.2.2.2.2.2.2.2.2.2.2.1 ∧ SR A q.2.2.2.2.2.2.2.2.2.2.2.2.2.2.2.2 ∧ R = prg T n m A p ∧ n + 1 - p ≤ m)) (fun (o : Option (Int32 × Int32 × Int32 × Int32 × Int32 × (Nat → Int32) × (Nat → Int32) × (Nat → Int32) × (Nat → Int32) × (Nat → Int32) × (Nat → Int64) × Int32 × (Nat → Int32) × (Nat → Int32) × (Nat → Int32) × (Nat → Int32))) => OKC R o) (fun m q hI k hk => ?_)
  obtain ⟨l, ec, ea, at_, sc, wc, ord, dur, pau, siz, wor, nam, ns, wi, le, re, set⟩ := q
  obtain ⟨c, h1, h2, h3⟩ := hI
  have h1 : l = nI c := h1
  subst h1
  show OKC R (S_X5_readShow_45 (0 : Int32) (nI n) (nI 0) text k (nI c) ec ea at_ sc wc ord dur pau siz wor nam ns wi le re set)
  unfold S_X5_readShow_45
  rcases h3 with ⟨e, g1, g2⟩ | ⟨A, p, g1, g2, g3, g4, g5, g6, g7, g8, g9, g10, g11⟩
  · have e0 : ¬ ec = (0 : Int32) := by
      have : ec = -nI e.1 := g2.2.2.2.1
      rw [this]; exact ng_0 e.1 (by have := g2.2.1; omega) g2.1
    have fin : OKC R (some (ec, ea, at_, sc, wc, ord, dur, pau, siz, wor, nam, ns, wi, le, re, set)) := ⟨_, _, _, _, _, _, _, _, _, _, _, _, _, _, _, _, rfl, by rw [g1]; exact g2, fun h => by rw [g1] at h; cases h⟩
    by_cases c9 : (900 : Int32) ≤ nI c
    · rw [if_pos c9]; exact fin
    · rw [if_neg c9, if_neg e0]; exact fin
  · have g4 : ec = nI 0 := g4
    have g5 : ea = -nI 1 := g5
    have g6 : at_ = nI (rn (iss T n) n p) := g6
    subst g4; subst g5; subst g6
    have hq := rn_b (P := iss T n) g3
    have fin : n ≤ rn (iss T n) n p → OKC R (some (nI 0, -nI 1, nI (rn (iss T n) n p), sc, wc, ord, dur, pau, siz, wor, nam, ns, wi, le, re, set)) := fun h => by
      rw [prg_end h] at g10
      rw [g10]
      exact ⟨_, _, _, _, _, _, _, _, _, _, _, _, _, _, _, _, rfl, ⟨rfl, rfl⟩, fun _ => ⟨g7, g8, g9⟩⟩
    by_cases c9 : (900 : Int32) ≤ nI c
    · rw [if_pos c9]
      have := (nI_leI (a := 900) (by omega) (by omega)).mp c9
      exact fin (by omega)
    · rw [if_neg c9, if_pos (show nI 0 = (0 : Int32) from rfl)]
      by_cases c1 : n ≤ rn (iss T n) n p
      · rw [if_pos (nI_le c1 (by omega))]
        exact fin c1
      · rw [if_neg (fun h => c1 ((nI_leI (by omega) (by omega)).mp h))]
        obtain ⟨ec', ea', a', sc', wc', ord', dur', pau', siz', wor', nam', ns', wi', le', re', set', f1, f2, f3, f4⟩ := p_stm (q := rn (iss T n) n p) hT g1 g7 g8 g9 hq.2
        obtain ⟨ec2, ea2, r, f5, f6, f7, f8⟩ := p_semi hT f3 f2
        rw [ob16_s f1, f5, ob3_some, p_skipSpaces hT f6, ob1_some]
        have e1 : nI c + (1 : Int32) = nI (c + 1) := nI_add c 1
        rw [e1]
        obtain ⟨m, rfl⟩ : ∃ m', m = m' + 1 := ⟨m - 1, by omega⟩
        rw [prg_s, if_neg c1] at g10
        have hso := sem_ok (T := T) g1 hq.2 hn
        have hsm : sem T n (stm T n A (rn (iss T n) n p)) = (erj (stm T n A (rn (iss T n) n p)).1 (smc T n (stm T n A (rn (iss T n) n p)).2.2) (rn (iss T n) n (stm T n A (rn (iss T n) n p)).2.2), (stm T n A (rn (iss T n) n p)).2.1, rn (iss T n) n (stm T n A (rn (iss T n) n p)).2.2 + 1) := rfl
        generalize stm T n A (rn (iss T n) n p) = X at *
        cases hX : X.1 with
        | some e =>
          rw [hX, erj_some] at hsm
          rw [hX, erj_some] at f7
          rw [hsm, if_neg (show ¬ (some e : Option (Nat × Nat)).isNone = true from Bool.false_ne_true)] at g10
          exact hk m _ (by omega) ⟨c + 1, rfl, by omega, Or.inl ⟨e, by rw [g10], f7⟩⟩
        | none =>
          obtain ⟨k1, k2, k3, k4⟩ := f4 hX
          rw [smc_rn k1, k1] at f7
          rw [smc_rn k1, k1] at f8
          have h7 : ER (sem T n X).1 ec2 ea2 := by rw [hsm]; exact f7
          by_cases c2 : (sem T n X).1 = none
          · have h9 := hso c2
            rw [if_pos (by rw [c2]; rfl)] at g10
            have hc2 : erj X.1 (smc T n X.2.2) (rn (iss T n) n X.2.2) = none := by rw [hsm] at c2; exact c2
            have hr := f8 (erj_no hc2).2
            have hp2 : (sem T n X).2.2 = r := by rw [hsm, hr]
            have hA2 : (sem T n X).2.1 = X.2.1 := by rw [hsm]
            rw [hA2, hp2] at h9 g10
            rw [c2] at h7
            obtain ⟨z1, z2⟩ := h7
            subst z1; subst z2
            exact hk m _ (by omega) ⟨c + 1, rfl, by omega, Or.inr ⟨X.2.1, r, h9.1, by omega, f6, rfl, rfl, rfl, k2, k3, k4, g10, by omega⟩⟩
          · obtain ⟨e, he⟩ : ∃ e, (sem T n X).1 = some e := by
              cases hx : (sem T n X).1 with
              | none => exact absurd hx c2
              | some e => exact ⟨e, rfl⟩
            rw [if_neg (by rw [he]; exact Bool.false_ne_true)] at g10
            exact hk m _ (by omega) ⟨c + 1, rfl, by omega, Or.inl ⟨e, by rw [g10]; exact he, by rw [← he]; exact h7⟩⟩
end
