/-! ===== the load ===== -/
section
variable {T : Nat → Nat} {n : Nat} {text : Nat → Int32}
theorem TX.le {bl : Nat} (h : TX T bl text) (hn : n ≤ bl) : TX T n text := ⟨Nat.le_trans hn h.1, fun i hi => h.2 i (by omega)⟩
theorem p_readShow {bl : Nat} (hT : TX T bl text) (hnb : n ≤ bl) {ec0 ea0 end0 at0 sc0 wc0 ns0 ex0 : Int32} {ord0 dur0 pau0 siz0 wor0 wi0 le0 re0 set0 : Nat → Int32} {nam0 : Nat → Int64} :
    ∃ ec ea at_ sc wc ord dur pau siz wor nam ns wi le re set, F_X5_readShow (nI n) (nI bl) ec0 ea0 end0 at0 sc0 wc0 ord0 dur0 pau0 siz0 wor0 nam0 ns0 wi0 le0 re0 ex0 set0 text = some (nI 0, ec, ea, nI n, at_, sc, wc, ord, dur, pau, siz, wor, nam, ns, wi, le, re, nI 0, set) ∧ ER (prgA T n).1 ec ea ∧ ((prgA T n).1 = none → TR (prgA T n).2 sc wc ord dur pau siz wor nam ∧ QR (prgA T n).2 ns wi le re ∧ SR (prgA T n).2 set) := by
  have hb := hT.1
  have hT := hT.le hnb
  have e1 : (if nI bl < nI n then nI bl else nI n) = nI n := if_neg (fun h => by have := (nI_ltI (by omega) (by omega)).mp h; omega)
  obtain ⟨ec, ea, at_, sc, wc, ord, dur, pau, siz, wor, nam, ns, wi, le, re, set, f1, f2, f3⟩ := p_prgLoop (R := prgA T n) hT wF (n + 1) ((0 : Int32), (0 : Int32), (-1 : Int32), nI (rn (iss T n) n 0), (0 : Int32), (0 : Int32), ord0, dur0, pau0, siz0, wor0, nam0, (0 : Int32), wi0, le0, re0, va_cpy gq_first set0 (0 : Int32).toNatClampNeg (0 : Int32).toNatClampNeg (6 : Int32).toNatClampNeg) ⟨0, rfl, by omega, Or.inr ⟨A0f, 0, A0_VP, Nat.le_refl _, Nat.zero_le _, rfl, rfl, rfl, A0_TR, A0_QR, A0_SR, rfl, by omega⟩⟩ (by unfold wF; omega)
  refine ⟨ec, ea, at_, sc, wc, ord, dur, pau, siz, wor, nam, ns, wi, le, re, set, ?_, f2, f3⟩
  unfold F_X5_readShow F_X6_clear F_X9_clear
  rw [ob2_some, ob5_some, e1, show (0 : Int32) = nI 0 from rfl, p_skipSpaces hT (Nat.zero_le _), ob1_some]
  exact ob16_s f1
theorem q_load {A : Nat → Nat} {a fr0 kp : Nat → Int64} {H : Nat → Nat → Nat} {m bl : Nat} (hM : MR A a) (hm : m ≤ 8) {km : Int32} (hK : KK H m km kp) (hT : TX T bl text) {th sz at0 be0 kd0 wr0 wa0 ea0 : Int32} {num0 : Int64} (x : Int32) :
    (¬ (0 ≤ x.toInt ∧ x.toInt ≤ bl) → ∃ at_ be kd wr wa num fr, F_X11_load x km th (nI bl) sz at0 be0 kd0 wr0 wa0 ea0 num0 a fr0 kp text = some (nI 0, km, nI 1, nI bl, sz, at_, be, kd, wr, wa, ea0, num, a, fr, kp)) ∧
    (x = nI n → n ≤ bl → 
      ((prgA T n).1 = none → ∃ at_ be kd wr wa num a' fr kp', F_X11_load x km th (nI bl) sz at0 be0 kd0 wr0 wa0 ea0 num0 a fr0 kp text = some (nI ((prgA T n).2 6), nI (hpm m), nI 0, nI 0, nI n, at_, be, kd, wr, wa, -nI 1, num, a', fr, kp') ∧ MR (prgA T n).2 a' ∧ KK (hpu H m A) (hpm m) (nI (hpm m)) kp') ∧
      (∀ e, (prgA T n).1 = some e → ∃ at_ be kd wr wa num fr, F_X11_load x km th (nI bl) sz at0 be0 kd0 wr0 wa0 ea0 num0 a fr0 kp text = some (-nI e.1, km, nI 0, nI 0, nI n, at_, be, kd, wr, wa, nI e.2, num, a, fr, kp))) := by
  have hb := hT.1
  have hin := q_isInN x (lo := 0) (hi := bl) (by omega) (by omega)
  have hl : (nI bl).toInt64 = lN bl := nI_l (by omega)
  unfold F_X11_load
  rw [hl, show (0 : Int64) = lN 0 from rfl, hin, ob1_some]
  refine ⟨fun h => ?_, fun hx hnb => ?_⟩
  · rw [bI_0 (fun h9 => h ⟨by omega, h9.2⟩), if_pos (show nI 0 = (0 : Int32) from rfl)]
    unfold F_X11_load_b20
    rw [if_neg (show ¬ (1 : Int32) ≤ 0 by decide)]
    exact ⟨_, _, _, _, _, _, _, rfl⟩
  · subst hx
    have ht : (nI n).toInt = n := nI_toInt (by omega)
    rw [bI_1 (show ((0 : Nat) : Int) ≤ (nI n).toInt ∧ (nI n).toInt ≤ (bl : Int) by rw [ht]; omega), if_neg (show ¬ nI 1 = (0 : Int32) by decide)]
    have hT := hT.le hnb
    obtain ⟨fr, f1, f2⟩ := q_begins (fr := fr0)
    obtain ⟨at1, be1, kd1, num1, f3, f4⟩ := q_next hT (p := 0) (at0 := at0) (kd0 := kd0) (num0 := num0) (Nat.zero_le _)
    obtain ⟨at_, be, kd, wr, wa, num, fr', f5, f6, f7⟩ := q_prgLoop (km := km) (th := (0 : Int32)) (bu := (0 : Int32)) (ea := ea0) (a0 := a) (kp := kp) (R := prgA T n) hT wF (n + 1) (at1, be1, kd1, (0 : Int32), wa0, num1, fr) (Or.inr ⟨A0f, 0, A0_VP, rfl, f4, f2, rfl, by omega⟩) (by unfold wF; omega)
    have f3 : F_X11_next (nI n) at0 (0 : Int32) kd0 num0 text = some (at1, be1, kd1, num1) := f3
    unfold F_X11_load_b20
    rw [if_pos (show (0 : Int32) ≤ 0 by decide), f1, ob1_some, f3, ob4_some, ob7_s f5]
    unfold F_X11_load_b132 F_X11_load_b148
    refine ⟨fun h => ?_, fun e h => ?_⟩
    · rw [h] at f6
      have f6 : wr = nI 0 := f6
      subst f6
      obtain ⟨kp', g1, g2⟩ := q_keeps hM hm hK
      obtain ⟨a', g3, g4⟩ := q_becomes (a := a) (f7 h)
      have g5 := g4 6 (by omega)
      have h6 := (prgA_VP (T := T) (n := n) (by omega) h).1.n
      rw [if_pos (show nI 0 = (0 : Int32) from rfl), if_pos (show nI 0 = (0 : Int32) from rfl), g1, ob2_some, g3, ob1_some, show (6 : Int32) = nI 6 from rfl, gi_n (by omega) (by omega), nI_clamp (by omega), g5, lN_i]
      exact ⟨_, _, _, _, _, _, _, _, _, rfl, g4, g2⟩
    · rw [h] at f6
      have g1 := RE.no f6 (by intro h; cases h)
      obtain ⟨-, -, -, g2, g3⟩ := f6
      rw [if_neg g1, if_neg g1, g2, g3]
      exact ⟨_, _, _, _, _, _, _, rfl⟩
end
