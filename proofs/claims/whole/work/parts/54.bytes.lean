/-! ===== bytes of a text ===== -/
theorem upd_s {f : Nat → Int32} {i : Nat} {v : Int32} : upd f i v i = v := if_pos rfl
theorem upd_n {f : Nat → Int32} {i j : Nat} {v : Int32} (h : j ≠ i) : upd f i v j = f j := if_neg h
theorem and255 (y : Int32) : ∃ b, y &&& (255 : Int32) = nI b ∧ b ≤ 255 := by
  refine ⟨(y &&& (255 : Int32)).toBitVec.toNat, ?_, ?_⟩
  · apply Int32.toBitVec_inj.mp
    apply BitVec.eq_of_toNat_eq
    show _ = (Int32.ofNat _).toBitVec.toNat
    rw [Int32.toBitVec_ofNat', BitVec.toNat_ofNat, Nat.mod_eq_of_lt (BitVec.isLt _)]
  · rw [Int32.toBitVec_and, BitVec.toNat_and]
    exact Nat.and_le_right
/-- the byte of x that lies s bits up -/
def byt (x : Int32) (s : Int32) : Int32 := (x >>> (s &&& 31)) &&& (255 : Int32)
theorem b255 : ∀ i : Fin 32, ¬ i.1 < 8 → (255#32)[i.1] = false := by decide
theorem byt_c {x : Int32} {s : Int32} (h : s = 24 ∨ s = 16 ∨ s = 8 ∨ s = 0) : ((x.toUInt32 >>> (s.toUInt32 &&& Int32.toUInt32 31)).toInt32) &&& (255 : Int32) = byt x s := by
  unfold byt
  apply Int32.toBitVec_inj.mp
  rcases h with h | h | h | h <;> subst h
  · show (x.toBitVec >>> (24 : Nat)) &&& 255#32 = (x.toBitVec.sshiftRight 24) &&& 255#32
    ext i hi
    simp only [BitVec.getElem_and, BitVec.getElem_ushiftRight, BitVec.getElem_sshiftRight]
    by_cases c : i < 8
    · rw [dif_pos (by omega)]; rfl
    · have : (255#32)[i] = false := by
        exact b255 ⟨i, hi⟩ c
      rw [this, Bool.and_false, Bool.and_false]
  · show (x.toBitVec >>> (16 : Nat)) &&& 255#32 = (x.toBitVec.sshiftRight 16) &&& 255#32
    ext i hi
    simp only [BitVec.getElem_and, BitVec.getElem_ushiftRight, BitVec.getElem_sshiftRight]
    by_cases c : i < 8
    · rw [dif_pos (by omega)]; rfl
    · have : (255#32)[i] = false := by
        exact b255 ⟨i, hi⟩ c
      rw [this, Bool.and_false, Bool.and_false]
  · show (x.toBitVec >>> (8 : Nat)) &&& 255#32 = (x.toBitVec.sshiftRight 8) &&& 255#32
    ext i hi
    simp only [BitVec.getElem_and, BitVec.getElem_ushiftRight, BitVec.getElem_sshiftRight]
    by_cases c : i < 8
    · rw [dif_pos (by omega)]; rfl
    · have : (255#32)[i] = false := by
        exact b255 ⟨i, hi⟩ c
      rw [this, Bool.and_false, Bool.and_false]
  · show (x.toBitVec >>> (0 : Nat)) &&& 255#32 = (x.toBitVec.sshiftRight 0) &&& 255#32
    ext i hi
    simp only [BitVec.getElem_and, BitVec.getElem_ushiftRight, BitVec.getElem_sshiftRight]
    rw [dif_pos (by omega)]; rfl
def pic (x1 x2 x3 x4 x5 : Int32) (j : Nat) : Int32 := if 4 ≤ j then (if 8 ≤ j then (if 12 ≤ j then (if 16 ≤ j then x5 else x4) else x3) else x2) else x1
def bts (x1 x2 x3 x4 x5 : Int32) (j : Nat) : Int32 := byt (pic x1 x2 x3 x4 x5 j) (nI (24 - 8 * (j % 4)))
theorem p_takeBytes {x : Int32} {bl : Nat} {text : Nat → Int32} (h : bl + 4 ≤ 900) : F_X5_takeBytes x (nI bl) text = some (nI (bl + 4), upd (upd (upd (upd text bl (byt x 24)) (bl + 1) (byt x 16)) (bl + 2) (byt x 8)) (bl + 3) (byt x 0)) := by
  have st : ∀ (k : Int32 × Int32 × (Nat → Int32) → Option (Int32 × (Nat → Int32))) (s s' : Int32) (b : Nat) (f : Nat → Int32), s = 24 ∨ s = 16 ∨ s = 8 ∨ s = 0 → s + (-8 : Int32) = s' → b < 900 → S_X5_takeBytes_3 x k s (nI b) f = k (s', nI (b + 1), upd f b (byt x s)) := by
    intro k s s' b f hs hs' hb
    unfold S_X5_takeBytes_3
    rw [if_neg (by rcases hs with h | h | h | h <;> subst h <;> decide), if_neg (show ¬ (900 : Int32) ≤ nI b from fun h => by have := (nI_leI (a := 900) (by omega) (by omega)).mp h; omega), gi_n (by omega) (by omega), byt_c hs, hs', nI_clamp (by omega)]
    rw [show nI b + (1 : Int32) = nI (b + 1) from nI_add b 1]
  have key : wh (fun k (q : Int32 × Int32 × (Nat → Int32)) => S_X5_takeBytes_3 x k q.1 q.2.1 q.2.2) wF ((24 : Int32), nI bl, text) = some (nI (bl + 4), upd (upd (upd (upd text bl (byt x 24)) (bl + 1) (byt x 16)) (bl + 2) (byt x 8)) (bl + 3) (byt x 0)) := by
    obtain ⟨N, hN⟩ : ∃ N, wF = N + 1 + 1 + 1 + 1 + 1 := ⟨wF - 5, by unfold wF; omega⟩
    rw [hN]
    show S_X5_takeBytes_3 x _ (24 : Int32) (nI bl) text = _
    rw [st _ 24 16 bl text (by decide) (by decide) (by omega)]
    show S_X5_takeBytes_3 x _ (16 : Int32) (nI (bl + 1)) _ = _
    rw [st _ 16 8 (bl + 1) _ (by decide) (by decide) (by omega)]
    show S_X5_takeBytes_3 x _ (8 : Int32) (nI (bl + 2)) _ = _
    rw [st _ 8 0 (bl + 2) _ (by decide) (by decide) (by omega)]
    show S_X5_takeBytes_3 x _ (0 : Int32) (nI (bl + 3)) _ = _
    rw [st _ 0 (-8) (bl + 3) _ (by decide) (by decide) (by omega)]
    show S_X5_takeBytes_3 x _ (-8 : Int32) (nI (bl + 4)) _ = _
    unfold S_X5_takeBytes_3
    rw [if_pos (by decide)]
  unfold F_X5_takeBytes
  rw [ob2_s key]
/-- four more -/
theorem tk4 {text : Nat → Int32} {bl : Nat} {b0 b1 b2 b3 : Int32} : (∀ i, i < bl → upd (upd (upd (upd text bl b0) (bl + 1) b1) (bl + 2) b2) (bl + 3) b3 i = text i) ∧ ∀ j, j < 4 → upd (upd (upd (upd text bl b0) (bl + 1) b1) (bl + 2) b2) (bl + 3) b3 (bl + j) = if j = 0 then b0 else if j = 1 then b1 else if j = 2 then b2 else b3 := by
  refine ⟨fun i hi => ?_, fun j hj => ?_⟩
  · rw [upd_n (by omega), upd_n (by omega), upd_n (by omega), upd_n (by omega)]
  · rcases (show j = 0 ∨ j = 1 ∨ j = 2 ∨ j = 3 by omega) with h | h | h | h <;> subst h
    · rw [if_pos rfl, upd_n (by omega), upd_n (by omega), upd_n (by omega)]; exact upd_s
    · rw [if_neg (by omega), if_pos rfl, upd_n (by omega), upd_n (by omega), upd_s]
    · rw [if_neg (by omega), if_neg (by omega), if_pos rfl, upd_n (by omega), upd_s]
    · rw [if_neg (by omega), if_neg (by omega), if_neg (by omega), upd_s]
theorem tk4b {x1 x2 x3 x4 x5 x : Int32} {d : Nat} (hd : d % 4 = 0) (h : ∀ j, j < 4 → pic x1 x2 x3 x4 x5 (d + j) = x) : ∀ j, j < 4 → (if j = 0 then byt x 24 else if j = 1 then byt x 16 else if j = 2 then byt x 8 else byt x 0) = bts x1 x2 x3 x4 x5 (d + j) := by
  intro j hj
  unfold bts
  rw [h j hj, show (d + j) % 4 = j by omega]
  rcases (show j = 0 ∨ j = 1 ∨ j = 2 ∨ j = 3 by omega) with h | h | h | h <;> subst h <;> rfl
/-- twenty bytes more, by the class -/
theorem p_append {x1 x2 x3 x4 x5 : Int32} {bl : Nat} {text : Nat → Int32} (hb : bl ≤ 900) :
    (¬ bl + 20 ≤ 900 → F_X10_append x1 x2 x3 x4 x5 (nI bl) text = some (.inl 1, nI bl, text)) ∧ (bl + 20 ≤ 900 → ∃ text', F_X10_append x1 x2 x3 x4 x5 (nI bl) text = some (.inr (nI (bl + 20)), nI (bl + 20), text') ∧ (∀ i, i < bl → text' i = text i) ∧ ∀ j, j < 20 → text' (bl + j) = bts x1 x2 x3 x4 x5 j) := by
  have e20 : nI bl + (20 : Int32) = nI (bl + 20) := nI_add bl 20
  refine ⟨fun h => ?_, fun h => ?_⟩
  · unfold F_X10_append F_X5_hasRoom
    rw [e20, if_pos (show (900 : Int32) < nI (bl + 20) from (nI_ltI (a := 900) (by omega) (by omega)).mpr (by omega)), ob1_some, if_pos (show (0 : Int32) = 0 from rfl)]
  · unfold F_X10_append F_X5_hasRoom
    rw [e20, if_neg (show ¬ (900 : Int32) < nI (bl + 20) from fun h9 => by have := (nI_ltI (a := 900) (by omega) (by omega)).mp h9; omega), ob1_some, if_neg (show ¬ (1 : Int32) = 0 by decide)]
    rw [p_takeBytes (by omega), ob2_some, p_takeBytes (by omega), ob2_some, p_takeBytes (by omega), ob2_some, p_takeBytes (by omega), ob2_some, p_takeBytes (by omega), ob2_some]
    have t1 := tk4 (text := text) (bl := bl) (b0 := byt x1 24) (b1 := byt x1 16) (b2 := byt x1 8) (b3 := byt x1 0)
    generalize upd (upd (upd (upd text bl (byt x1 24)) (bl + 1) (byt x1 16)) (bl + 2) (byt x1 8)) (bl + 3) (byt x1 0) = t_1 at *
    have t2 := tk4 (text := t_1) (bl := bl + 4) (b0 := byt x2 24) (b1 := byt x2 16) (b2 := byt x2 8) (b3 := byt x2 0)
    generalize upd (upd (upd (upd t_1 (bl + 4) (byt x2 24)) (bl + 4 + 1) (byt x2 16)) (bl + 4 + 2) (byt x2 8)) (bl + 4 + 3) (byt x2 0) = t_2 at *
    have t3 := tk4 (text := t_2) (bl := bl + 4 + 4) (b0 := byt x3 24) (b1 := byt x3 16) (b2 := byt x3 8) (b3 := byt x3 0)
    generalize upd (upd (upd (upd t_2 (bl + 4 + 4) (byt x3 24)) (bl + 4 + 4 + 1) (byt x3 16)) (bl + 4 + 4 + 2) (byt x3 8)) (bl + 4 + 4 + 3) (byt x3 0) = t_3 at *
    have t4 := tk4 (text := t_3) (bl := bl + 4 + 4 + 4) (b0 := byt x4 24) (b1 := byt x4 16) (b2 := byt x4 8) (b3 := byt x4 0)
    generalize upd (upd (upd (upd t_3 (bl + 4 + 4 + 4) (byt x4 24)) (bl + 4 + 4 + 4 + 1) (byt x4 16)) (bl + 4 + 4 + 4 + 2) (byt x4 8)) (bl + 4 + 4 + 4 + 3) (byt x4 0) = t_4 at *
    have t5 := tk4 (text := t_4) (bl := bl + 4 + 4 + 4 + 4) (b0 := byt x5 24) (b1 := byt x5 16) (b2 := byt x5 8) (b3 := byt x5 0)
    generalize upd (upd (upd (upd t_4 (bl + 4 + 4 + 4 + 4) (byt x5 24)) (bl + 4 + 4 + 4 + 4 + 1) (byt x5 16)) (bl + 4 + 4 + 4 + 4 + 2) (byt x5 8)) (bl + 4 + 4 + 4 + 4 + 3) (byt x5 0) = t_5 at *
    have b1 := tk4b (x1 := x1) (x2 := x2) (x3 := x3) (x4 := x4) (x5 := x5) (x := x1) (d := 0) (by omega) (fun j hj => if_neg (by omega))
    have b2 := tk4b (x1 := x1) (x2 := x2) (x3 := x3) (x4 := x4) (x5 := x5) (x := x2) (d := 4) (by omega) (fun j hj => by unfold pic; rw [if_pos (by omega), if_neg (by omega)])
    have b3 := tk4b (x1 := x1) (x2 := x2) (x3 := x3) (x4 := x4) (x5 := x5) (x := x3) (d := 8) (by omega) (fun j hj => by unfold pic; rw [if_pos (by omega), if_pos (by omega), if_neg (by omega)])
    have b4 := tk4b (x1 := x1) (x2 := x2) (x3 := x3) (x4 := x4) (x5 := x5) (x := x4) (d := 12) (by omega) (fun j hj => by unfold pic; rw [if_pos (by omega), if_pos (by omega), if_pos (by omega), if_neg (by omega)])
    have b5 := tk4b (x1 := x1) (x2 := x2) (x3 := x3) (x4 := x4) (x5 := x5) (x := x5) (d := 16) (by omega) (fun j hj => by unfold pic; rw [if_pos (by omega), if_pos (by omega), if_pos (by omega), if_pos (by omega)])
    refine ⟨t_5, rfl, fun i hi => ?_, fun j hj => ?_⟩
    · rw [t5.1 i (by omega), t4.1 i (by omega), t3.1 i (by omega), t2.1 i (by omega), t1.1 i hi]
    · rcases (show j < 4 ∨ (4 ≤ j ∧ j < 8) ∨ (8 ≤ j ∧ j < 12) ∨ (12 ≤ j ∧ j < 16) ∨ (16 ≤ j ∧ j < 20) by omega) with c | ⟨c, d⟩ | ⟨c, d⟩ | ⟨c, d⟩ | ⟨c, d⟩
      · have h1 := b1 j c
        rw [Nat.zero_add] at h1
        rw [t5.1 _ (by omega), t4.1 _ (by omega), t3.1 _ (by omega), t2.1 _ (by omega), t1.2 j c, h1]
      · obtain ⟨i, rfl⟩ : ∃ i, j = 4 + i := ⟨j - 4, by omega⟩
        rw [← b2 i (by omega), show bl + (4 + i) = bl + 4 + i by omega, t5.1 _ (by omega), t4.1 _ (by omega), t3.1 _ (by omega), t2.2 i (by omega)]
      · obtain ⟨i, rfl⟩ : ∃ i, j = 8 + i := ⟨j - 8, by omega⟩
        rw [← b3 i (by omega), show bl + (8 + i) = bl + 4 + 4 + i by omega, t5.1 _ (by omega), t4.1 _ (by omega), t3.2 i (by omega)]
      · obtain ⟨i, rfl⟩ : ∃ i, j = 12 + i := ⟨j - 12, by omega⟩
        rw [← b4 i (by omega), show bl + (12 + i) = bl + 4 + 4 + 4 + i by omega, t5.1 _ (by omega), t4.2 i (by omega)]
      · obtain ⟨i, rfl⟩ : ∃ i, j = 16 + i := ⟨j - 16, by omega⟩
        rw [← b5 i (by omega), show bl + (16 + i) = bl + 4 + 4 + 4 + 4 + i by omega, t5.2 i (by omega)]
theorem sh20 : ∀ j, j < 20 → ((24 : Int32) - ((8 : Int32) * (nI j - nI j / (4 : Int32) * (4 : Int32)))) = nI (24 - 8 * (j % 4)) := by decide
/-- and by the reference -/
theorem q_append {x1 x2 x3 x4 x5 th : Int32} {bl : Nat} {text : Nat → Int32} (hb : bl ≤ 900) :
    (¬ bl + 20 ≤ 900 → F_X11_append x1 x2 x3 x4 x5 th (nI bl) text = some (nI 0, nI 1, nI bl, text)) ∧ (bl + 20 ≤ 900 → ∃ text', F_X11_append x1 x2 x3 x4 x5 th (nI bl) text = some (nI (bl + 20), nI 0, nI (bl + 20), text') ∧ (∀ i, i < bl → text' i = text i) ∧ ∀ j, j < 20 → text' (bl + j) = bts x1 x2 x3 x4 x5 j) := by
  have e20 : nI bl + (20 : Int32) = nI (bl + 20) := nI_add bl 20
  refine ⟨fun h => ?_, fun h => ?_⟩
  · unfold F_X11_append F_X11_append_b19
    rw [e20, if_neg (show ¬ nI (bl + 20) ≤ (900 : Int32) from fun h9 => h ((nI_leI (b := 900) (by omega) (by omega)).mp h9)), if_neg (show ¬ (1 : Int32) ≤ 0 by decide)]
    rfl
  · unfold F_X11_append F_X11_append_b19
    rw [e20, if_pos (show nI (bl + 20) ≤ (900 : Int32) from (nI_leI (b := 900) (by omega) (by omega)).mpr h), if_pos (show (0 : Int32) ≤ 0 by decide)]
    obtain ⟨t', f1, f2, f3⟩ : ∃ t', wh (fun k q => S_X11_append_34 x1 x2 x3 x4 x5 (0 : Int32) k q.1 q.2.1 q.2.2) wF ((0 : Int32), nI bl, text) = some (nI (bl + 20), t') ∧ (∀ i, i < bl → t' i = text i) ∧ ∀ j, j < 20 → t' (bl + j) = bts x1 x2 x3 x4 x5 j := by
      refine wh_up 20 (by omega) (fun (j : Nat) (q : Int32 × (Int32) × (Nat → Int32)) => q.1 = nI j ∧ q.2.1 = nI (bl + j) ∧ (∀ i, i < bl → q.2.2 i = text i) ∧ ∀ i, i < j → q.2.2 (bl + i) = bts x1 x2 x3 x4 x5 i) (fun (o : Option (((Int32) × (Nat → Int32)))) => ∃ t', o = some (nI (bl + 20), t') ∧ (∀ i, i < bl → t' i = text i) ∧ ∀ j, j < 20 → t' (bl + j) = bts x1 x2 x3 x4 x5 j) (fun j q hj hI k hk => ?_) (Nat.zero_le _) ⟨rfl, rfl, fun _ _ => rfl, fun i h => absurd h (Nat.not_lt_zero i)⟩
      obtain ⟨l, b, P⟩ := q
      obtain ⟨g1, g2, g3, g4⟩ := hI
      have g1 : l = nI j := g1
      have g2 : b = nI (bl + j) := g2
      subst g1; subst g2
      show ∃ t', S_X11_append_34 x1 x2 x3 x4 x5 (0 : Int32) k (nI j) (nI (bl + j)) P = some (nI (bl + 20), t') ∧ _
      by_cases hlt : j < 20
      · have h87 : ∀ x, pic x1 x2 x3 x4 x5 j = x → F_X11_append_b87 k x1 x2 x3 x4 x5 (nI j) x (0 : Int32) (nI (bl + j)) P = k (nI (j + 1), nI (bl + (j + 1)), upd P (bl + j) (bts x1 x2 x3 x4 x5 j)) := by
          intro x hx
          unfold F_X11_append_b87 gzi
          rw [if_neg (by decide), gi_n (by omega) (by omega), sh20 j hlt, nI_clamp (by omega), show nI j + (1 : Int32) = nI (j + 1) from nI_add j 1, show nI (bl + j) + (1 : Int32) = nI (bl + (j + 1)) from nI_add (bl + j) 1]
          unfold bts byt
          rw [hx]
        have hS : S_X11_append_34 x1 x2 x3 x4 x5 (0 : Int32) k (nI j) (nI (bl + j)) P = k (nI (j + 1), nI (bl + (j + 1)), upd P (bl + j) (bts x1 x2 x3 x4 x5 j)) := by
          have le : ∀ c : Nat, c < 100 → (nI c ≤ nI j ↔ c ≤ j) := fun c hc => nI_leI (by omega) (by omega)
          unfold S_X11_append_34
          rw [if_neg (show ¬ (20 : Int32) ≤ nI j from fun h9 => by have := (le 20 (by omega)).mp h9; omega)]
          by_cases c4 : 4 ≤ j
          · rw [if_pos (show (4 : Int32) ≤ nI j from (le 4 (by omega)).mpr c4)]
            by_cases c8 : 8 ≤ j
            · rw [if_pos (show (8 : Int32) ≤ nI j from (le 8 (by omega)).mpr c8)]
              by_cases c12 : 12 ≤ j
              · rw [if_pos (show (12 : Int32) ≤ nI j from (le 12 (by omega)).mpr c12)]
                by_cases c16 : 16 ≤ j
                · rw [if_pos (show (16 : Int32) ≤ nI j from (le 16 (by omega)).mpr c16)]
                  exact h87 x5 (by unfold pic; rw [if_pos c4, if_pos c8, if_pos c12, if_pos c16])
                · rw [if_neg (show ¬ (16 : Int32) ≤ nI j from fun h9 => c16 ((le 16 (by omega)).mp h9))]
                  exact h87 x4 (by unfold pic; rw [if_pos c4, if_pos c8, if_pos c12, if_neg c16])
              · rw [if_neg (show ¬ (12 : Int32) ≤ nI j from fun h9 => c12 ((le 12 (by omega)).mp h9))]
                exact h87 x3 (by unfold pic; rw [if_pos c4, if_pos c8, if_neg c12])
            · rw [if_neg (show ¬ (8 : Int32) ≤ nI j from fun h9 => c8 ((le 8 (by omega)).mp h9))]
              exact h87 x2 (by unfold pic; rw [if_pos c4, if_neg c8])
          · rw [if_neg (show ¬ (4 : Int32) ≤ nI j from fun h9 => c4 ((le 4 (by omega)).mp h9))]
            exact h87 x1 (by unfold pic; rw [if_neg c4])
        rw [hS]
        refine hk hlt _ ⟨rfl, rfl, fun i hi => ?_, fun i hi => ?_⟩
        · show upd P (bl + j) _ i = _
          rw [upd_n (by omega)]; exact g3 i hi
        · show upd P (bl + j) _ (bl + i) = _
          by_cases h0 : i = j
          · subst h0; exact upd_s
          · rw [upd_n (by omega)]; exact g4 i (by omega)
      · have h8 : j = 20 := by omega
        subst h8
        refine ⟨P, ?_, g3, g4⟩
        unfold S_X11_append_34
        rw [if_pos (by decide)]
    rw [ob2_s f1]
    exact ⟨t', rfl, f2, f3⟩
/-- the two texts are one -/
theorem tx_append {T : Nat → Nat} {x1 x2 x3 x4 x5 : Int32} {bl : Nat} (h : bl + 20 ≤ 900) : ∃ T' : Nat → Nat, ∀ text text', TX T bl text → (∀ i, i < bl → text' i = text i) → (∀ j, j < 20 → text' (bl + j) = bts x1 x2 x3 x4 x5 j) → TX T' (bl + 20) text' := by
  refine ⟨fun i => if i < bl then T i else (bts x1 x2 x3 x4 x5 (i - bl)).toBitVec.toNat, fun text text' hT h1 h2 => ⟨h, fun i hi => ?_⟩⟩
  by_cases c : i < bl
  · dsimp only
    rw [if_pos c, h1 i c]
    exact hT.2 i c
  · dsimp only
    rw [if_neg c]
    obtain ⟨j, rfl⟩ : ∃ j, i = bl + j := ⟨i - bl, by omega⟩
    rw [h2 j (by omega), Nat.add_sub_cancel_left]
    obtain ⟨b, e1, e2⟩ : ∃ b, bts x1 x2 x3 x4 x5 j = nI b ∧ b ≤ 255 := and255 _
    rw [e1]
    have : (nI b).toBitVec.toNat = b := by
      show (Int32.ofNat b).toBitVec.toNat = b
      rw [Int32.toBitVec_ofNat', BitVec.toNat_ofNat, Nat.mod_eq_of_lt (by omega)]
    rw [this]
    exact ⟨rfl, e2⟩
