/-! ===== titles: counts, marks, the typical segment ===== -/
def cu (A : Nat → Nat) (c w : Nat) : Nat := us A w (bg (tbl A) c) (en (tbl A) (bg (tbl A) c) + 1 - bg (tbl A) c)
def spr (A : Nat → Nat) (w : Nat) : Nat → Nat
  | 0 => 0
  | m + 1 => if 0 < cu A m w then spr A w m + 1 else spr A w m
theorem spr_s (A : Nat → Nat) (w m : Nat) : spr A w (m + 1) = if 0 < cu A m w then spr A w m + 1 else spr A w m := rfl
def mk (A : Nat → Nat) (K c w : Nat) : Nat := if cu A c w = 0 then 0 else 1000 * cu A c w / spr A w (K + 1)
def dfw (A : Nat → Nat) (c : Nat) : Nat → Nat
  | 0 => 0
  | w + 1 => if 0 < cu A c w then dfw A c w + 1 else dfw A c w
theorem dfw_s (A : Nat → Nat) (c w : Nat) : dfw A c (w + 1) = if 0 < cu A c w then dfw A c w + 1 else dfw A c w := rfl
def tsm (A : Nat → Nat) (K c s : Nat) : Nat → Nat
  | 0 => 0
  | k + 1 => tsm A K c s k + mk A K c (oA A s (3 + k))
theorem tsm_s (A : Nat → Nat) (K c s k : Nat) : tsm A K c s (k + 1) = tsm A K c s k + mk A K c (oA A s (3 + k)) := rfl
def tyi (A : Nat → Nat) (K c f : Nat) : Nat → Nat × Int
  | 0 => (f, -1)
  | d + 1 => if (tyi A K c f d).2 < tsm A K c (f + d) (oA A (f + d) 2) then (f + d, (tsm A K c (f + d) (oA A (f + d) 2) : Int)) else tyi A K c f d
theorem tyi_s (A : Nat → Nat) (K c f d : Nat) : tyi A K c f (d + 1) = if (tyi A K c f d).2 < tsm A K c (f + d) (oA A (f + d) 2) then (f + d, (tsm A K c (f + d) (oA A (f + d) 2) : Int)) else tyi A K c f d := rfl
def typ (A : Nat → Nat) (K c : Nat) : Nat := (tyi A K c (bg (tbl A) c) (en (tbl A) (bg (tbl A) c) + 1 - bg (tbl A) c)).1
theorem spr_le (A : Nat → Nat) (w : Nat) : ∀ m, spr A w m ≤ m := by
  intro m
  induction m with
  | zero => exact Nat.le_refl 0
  | succ m ih => rw [spr_s]; split <;> omega
theorem spr_pos {A : Nat → Nat} {w c : Nat} (h : 0 < cu A c w) : ∀ m, c < m → 0 < spr A w m := by
  intro m
  induction m with
  | zero => intro h; exact absurd h (Nat.not_lt_zero c)
  | succ m ih =>
    intro h1
    rw [spr_s]
    by_cases h2 : c = m
    · subst h2; rw [if_pos h]; omega
    · have := ih (by omega)
      split <;> omega
section
variable {A : Nat → Nat} {a : Nat → Int64} {sc wc : Int32} {ord dur pau siz wor : Nat → Int32} {nam : Nat → Int64} {x : Int × Nat × Nat}
theorem cu_le (hV : VA A) (hx : tbl A 0 = some x) {c w : Nat} (hc : c ≤ x.2.1) : cu A c w ≤ 256 := by
  have hn := hV.n
  have h1 := (tbl_cht hx).1 c hc
  have h2 := (tbl_cht hx).le (i := c + 1) (j := x.2.1 + 1) (by omega) (Nat.le_refl _)
  rw [(tbl_cht hx).2, bg_s] at h2
  have h3 := us_le hV (w := w) (f := bg (tbl A) c) (en (tbl A) (bg (tbl A) c) + 1 - bg (tbl A) c) (by omega)
  unfold cu
  omega
theorem cu_0 (hV : VA A) (hx : tbl A 0 = some x) {c w : Nat} (hc : c ≤ x.2.1) (hw : A 7 ≤ w) : cu A c w = 0 := by
  have h1 := (tbl_cht hx).1 c hc
  have h2 := (tbl_cht hx).le (i := c + 1) (j := x.2.1 + 1) (by omega) (Nat.le_refl _)
  rw [(tbl_cht hx).2, bg_s] at h2
  exact us_0 hV hw _ (by omega)
theorem dfw_cut (hV : VA A) (hx : tbl A 0 = some x) {c : Nat} (hc : c ≤ x.2.1) : ∀ d, dfw A c (A 7 + d) = dfw A c (A 7) := by
  intro d
  induction d with
  | zero => rfl
  | succ d ih =>
    rw [show A 7 + (d + 1) = (A 7 + d) + 1 from rfl, dfw_s, cu_0 hV hx hc (by omega), if_neg (by omega)]
    exact ih
theorem mk_le (hV : VA A) (hx : tbl A 0 = some x) {c w : Nat} (hc : c ≤ x.2.1) : mk A x.2.1 c w ≤ 256000 := by
  have h1 := cu_le hV hx hc (w := w)
  unfold mk
  split
  · omega
  · exact Nat.le_trans (Nat.div_le_self _ _) (by omega)
theorem mk_pos (hV : VA A) (hx : tbl A 0 = some x) {c w : Nat} (hc : c ≤ x.2.1) : (mk A x.2.1 c w = 0) = (cu A c w = 0) := by
  have hn := hV.n
  have hK := (tbl_cht hx).K
  refine propext ⟨fun h => ?_, fun h => by unfold mk; rw [if_pos h]⟩
  rcases Nat.eq_zero_or_pos (cu A c w) with h0 | h0
  · exact h0
  · exfalso
    unfold mk at h
    rw [if_neg (by omega)] at h
    have h1 := spr_le A w (x.2.1 + 1)
    have h2 := spr_pos h0 (x.2.1 + 1) (by omega)
    have h3 := Nat.div_pos (a := 1000 * cu A c w) (b := spr A w (x.2.1 + 1)) (by omega) h2
    omega
theorem tsm_le (hV : VA A) (hx : tbl A 0 = some x) {c s : Nat} (hc : c ≤ x.2.1) : ∀ k, tsm A x.2.1 c s k ≤ 256000 * k := by
  intro k
  induction k with
  | zero => exact Nat.le_refl 0
  | succ k ih =>
    rw [tsm_s]
    have := mk_le hV hx hc (w := oA A s (3 + k))
    omega
theorem tyi_b (hV : VA A) (hx : tbl A 0 = some x) {c f : Nat} (hc : c ≤ x.2.1) : ∀ d, f + d ≤ A 6 → -1 ≤ (tyi A x.2.1 c f d).2 ∧ (tyi A x.2.1 c f d).2 ≤ 2048000 ∧ f ≤ (tyi A x.2.1 c f d).1 ∧ (tyi A x.2.1 c f d).1 ≤ f + d := by
  intro d
  induction d with
  | zero => intro _; exact ⟨Int.le_refl _, (by show (-1 : Int) ≤ 2048000; decide), Nat.le_refl _, Nat.le_refl _⟩
  | succ d ih =>
    intro hd
    have h1 := ih (by omega)
    have h2 := hV.seg (s := f + d) (by omega)
    have h3 := tsm_le hV hx hc (s := f + d) (oA A (f + d) 2)
    rw [tyi_s]
    split
    · exact ⟨by dsimp only; omega, by dsimp only; omega, by dsimp only; omega, by dsimp only; omega⟩
    · omega
/-- what the class keeps for titles -/
def TV (A : Nat → Nat) (spd cnt : Nat → Int32) : Prop := ∀ x, tbl A 0 = some x → (∀ w, w < 24 → spd w = nI (spr A w (x.2.1 + 1))) ∧ ∀ c, c ≤ x.2.1 → ∀ w, w < 24 → cnt (c * 24 + w) = nI (cu A c w)
theorem p_titlesUpdate (hV : VA A) (h : TR A sc wc ord dur pau siz wor nam) {cc bw : Int32} {fir cat : Nat → Int32} (hD : DB A cc bw fir cat) {spd cnt : Nat → Int32} : ∃ spd' cnt', F_X8_update spd cnt ord siz wor cc (nI (A 6)) fir = some (spd', cnt') ∧ TV A spd' cnt' := by
  have hn := hV.n
  obtain ⟨c1, g1, g2⟩ := p_fill (n := 768) (x := 0) (p := cnt) (by omega)
  obtain ⟨s1, g3, g4⟩ := p_fill (n := 24) (x := 0) (p := spd) (by omega)
  unfold F_X8_update
  simp only [fa_lit]
  rw [ob1_s g1, ob1_s g3]
  unfold DB at hD
  cases hx : tbl A 0 with
  | none =>
    rw [hx] at hD
    have hD : cc = nI 0 := hD
    subst hD
    have key : wh (fun k q => S_X8_update_18 ord siz wor (nI 0) (nI (A 6)) fir k q.1 q.2.1 q.2.2) wF (nI 0, s1, c1) = some (s1, c1) := by
      refine whf (fun _ => (nI 0, s1, c1)) 0 0 rfl (Nat.le_refl _) (by omega) (fun j _ hj k => absurd hj (Nat.not_lt_zero j)) (fun k => ?_)
      simp (disch := omega) only [fa_lit, fa_litL, nI_add, pk_mul, pk_sub, nI_clamp, gi_n, gb_0, gb_1, nI_ltI, nI_leI, nI_eq, lc_lt, lc_gt, lc_ge, lc_le, lc_eq, lN_i, nI_l, lN_add, lN_mul, lN_lt, lN_le, lN_eq, mI_eqR, mI_eqL, mI_ltL, mI_ltR, mI_leL, mI_leR, mI_add, ob1_some, ob2_some, ob3_some, ob4_some, ob5_some, ob6_some, ob7_some, ob8_some, if_true, if_false, if_pos, if_neg, Sum.elim_inl, Sum.elim_inr, un1, un2, un3, un4, un5, Nat.zero_add, Nat.add_zero, Nat.mul_one, Nat.mul_zero, Nat.sub_zero, pk_us, pk_uLs, xoq_l, xoq_r, nI_sle, S_X8_update_18]
    rw [ob2_s key]
    exact ⟨s1, c1, rfl, fun x h => by rw [hx] at h; cases h⟩
  | some x =>
    rw [hx] at hD
    obtain ⟨d1, d2, d3, d4⟩ := hD
    subst d1
    have hc := tbl_cht hx
    have hK := hc.K
    have key : ∃ s2 c2, wh (fun k q => S_X8_update_18 ord siz wor (nI (x.2.1 + 1)) (nI (A 6)) fir k q.1 q.2.1 q.2.2) wF (nI 0, s1, c1) = some (s2, c2) ∧ (∀ w, w < 24 → s2 w = nI (spr A w (x.2.1 + 1))) ∧ ∀ c, c ≤ x.2.1 → ∀ w, w < 24 → c2 (c * 24 + w) = nI (cu A c w) := by
      refine wh_up (x.2.1 + 1) (by omega) (fun (j : Nat) (q : Int32 × (Nat → Int32) × (Nat → Int32)) => q.1 = nI j ∧ (∀ w, w < 24 → q.2.1 w = nI (spr A w j)) ∧ (∀ c, c < j → ∀ w, w < 24 → q.2.2 (c * 24 + w) = nI (cu A c w)) ∧ ∀ i, j * 24 ≤ i → i < 768 → q.2.2 i = nI 0) (fun (o : Option (((Nat → Int32) × (Nat → Int32)))) => ∃ s2 c2, o = some (s2, c2) ∧ (∀ w, w < 24 → s2 w = nI (spr A w (x.2.1 + 1))) ∧ ∀ c, c ≤ x.2.1 → ∀ w, w < 24 → c2 (c * 24 + w) = nI (cu A c w)) (fun j q hj hI k hk => ?_) (Nat.zero_le _) ⟨rfl, fun w hw => g4 w hw, fun c h => absurd h (Nat.not_lt_zero c), fun i _ hi => g2 i hi⟩
      obtain ⟨l, S, C⟩ := q
      obtain ⟨e1, e2, e3, e4⟩ := hI
      have e1 : l = nI j := e1
      subst e1
      have e2 : ∀ w, w < 24 → S w = nI (spr A w j) := e2
      have e3 : ∀ c, c < j → ∀ w, w < 24 → C (c * 24 + w) = nI (cu A c w) := e3
      have e4 : ∀ i, j * 24 ≤ i → i < 768 → C i = nI 0 := e4
      by_cases hlt : j < x.2.1 + 1
      · have h1 := hc.1 j (by omega)
        have h2 := hc.le (i := j + 1) (j := x.2.1 + 1) (by omega) (Nat.le_refl _)
        rw [hc.2, bg_s] at h2
        have h3 := p_lastOf hV hx d3 (k := j) (by omega)
        have h4 := d3 j (by omega)
        obtain ⟨C2, f1, f2, f3⟩ := p_tally (n3 := 768) (off := j * 24) (f := bg (tbl A) j) (t := en (tbl A) (bg (tbl A) j)) (p := C) (c := fun _ => 0) hV h (by omega) (by omega) (by omega) (by omega) (fun w hw => e4 _ (by omega) (by omega))
        have f2 : ∀ w, w < 24 → C2 (j * 24 + w) = nI (cu A j w) := fun w hw => by
          rw [f2 w hw, Nat.zero_add]; rfl
        have hcb : ∀ w, cu A j w ≤ 256 := fun w => cu_le hV hx (by omega)
        have hsb : ∀ w, spr A w j ≤ j := fun w => spr_le A w j
        obtain ⟨S2, f4, f5⟩ : ∃ S2, wh (fun k q => S_X8_update_56 (nI j) (nI (j * 24)) C2 ord siz wor (nI (x.2.1 + 1)) (nI (A 6)) fir k q.1 q.2) wF (nI 0, S) = some S2 ∧ ∀ w, w < 24 → S2 w = nI (spr A w (j + 1)) := by
          refine wh_up 24 (by omega) (fun (i : Nat) (q : Int32 × (Nat → Int32)) => q.1 = nI i ∧ (∀ w, w < i → q.2 w = nI (spr A w (j + 1))) ∧ ∀ w, i ≤ w → w < 24 → q.2 w = nI (spr A w j)) (fun (o : Option (((Nat → Int32)))) => ∃ S2, o = some S2 ∧ ∀ w, w < 24 → S2 w = nI (spr A w (j + 1))) (fun i q hi hI k hk => ?_) (Nat.zero_le _) ⟨rfl, fun w h => absurd h (Nat.not_lt_zero w), fun w _ hw => e2 w hw⟩
          obtain ⟨l, P⟩ := q
          obtain ⟨a1, a2, a3⟩ := hI
          have a1 : l = nI i := a1
          subst a1
          have a2 : ∀ w, w < i → P w = nI (spr A w (j + 1)) := a2
          have a3 : ∀ w, i ≤ w → w < 24 → P w = nI (spr A w j) := a3
          by_cases hl2 : i < 24
          · have b1 := a3 i (Nat.le_refl _) hl2
            have b2 := f2 i hl2
            have b3 := hcb i
            have b4 := hsb i
            have h9 := hk hl2 (nI (i + 1), upd P i (nI (spr A i (j + 1)))) ⟨rfl, fun w hw => ?_, fun w hw hw2 => ?_⟩
            · rw [spr_s] at h9
              by_cases b5 : 0 < cu A j i
              · rw [if_pos b5] at h9
                simp (disch := omega) only [fa_lit, fa_litL, nI_add, pk_mul, pk_sub, nI_clamp, gi_n, gb_0, gb_1, nI_ltI, nI_leI, nI_eq, lc_lt, lc_gt, lc_ge, lc_le, lc_eq, lN_i, nI_l, lN_add, lN_mul, lN_lt, lN_le, lN_eq, mI_eqR, mI_eqL, mI_ltL, mI_ltR, mI_leL, mI_leR, mI_add, ob1_some, ob2_some, ob3_some, ob4_some, ob5_some, ob6_some, ob7_some, ob8_some, if_true, if_false, if_pos, if_neg, Sum.elim_inl, Sum.elim_inr, un1, un2, un3, un4, un5, Nat.zero_add, Nat.add_zero, Nat.mul_one, Nat.mul_zero, Nat.sub_zero, pk_us, pk_uLs, xoq_l, xoq_r, nI_sle, S_X8_update_56, F_X8_update_b89, b1, b2]
                exact h9
              · rw [if_neg b5] at h9
                simp (disch := omega) only [fa_lit, fa_litL, nI_add, pk_mul, pk_sub, nI_clamp, gi_n, gb_0, gb_1, nI_ltI, nI_leI, nI_eq, lc_lt, lc_gt, lc_ge, lc_le, lc_eq, lN_i, nI_l, lN_add, lN_mul, lN_lt, lN_le, lN_eq, mI_eqR, mI_eqL, mI_ltL, mI_ltR, mI_leL, mI_leR, mI_add, ob1_some, ob2_some, ob3_some, ob4_some, ob5_some, ob6_some, ob7_some, ob8_some, if_true, if_false, if_pos, if_neg, Sum.elim_inl, Sum.elim_inr, un1, un2, un3, un4, un5, Nat.zero_add, Nat.add_zero, Nat.mul_one, Nat.mul_zero, Nat.sub_zero, pk_us, pk_uLs, xoq_l, xoq_r, nI_sle, S_X8_update_56, F_X8_update_b89, b1, b2]
                exact h9
            · show upd P i _ w = _
              by_cases h0 : w = i
              · subst h0; exact pk_us
              · rw [pk_un h0]; exact a2 w (by omega)
            · show upd P i _ w = _
              rw [pk_un (by omega)]; exact a3 w (by omega) hw2
          · refine ⟨P, ?_, fun w hw => a2 w (by omega)⟩
            simp (disch := omega) only [fa_lit, fa_litL, nI_add, pk_mul, pk_sub, nI_clamp, gi_n, gb_0, gb_1, nI_ltI, nI_leI, nI_eq, lc_lt, lc_gt, lc_ge, lc_le, lc_eq, lN_i, nI_l, lN_add, lN_mul, lN_lt, lN_le, lN_eq, mI_eqR, mI_eqL, mI_ltL, mI_ltR, mI_leL, mI_leR, mI_add, ob1_some, ob2_some, ob3_some, ob4_some, ob5_some, ob6_some, ob7_some, ob8_some, if_true, if_false, if_pos, if_neg, Sum.elim_inl, Sum.elim_inr, un1, un2, un3, un4, un5, Nat.zero_add, Nat.add_zero, Nat.mul_one, Nat.mul_zero, Nat.sub_zero, pk_us, pk_uLs, xoq_l, xoq_r, nI_sle, S_X8_update_56]
        have h9 := hk hlt (nI (j + 1), S2, C2) ⟨rfl, f5, fun c hc2 w hw => ?_, fun i hi hi2 => ?_⟩
        · simp (disch := omega) only [fa_lit, fa_litL, nI_add, pk_mul, pk_sub, nI_clamp, gi_n, gb_0, gb_1, nI_ltI, nI_leI, nI_eq, lc_lt, lc_gt, lc_ge, lc_le, lc_eq, lN_i, nI_l, lN_add, lN_mul, lN_lt, lN_le, lN_eq, mI_eqR, mI_eqL, mI_ltL, mI_ltR, mI_leL, mI_leR, mI_add, ob1_some, ob2_some, ob3_some, ob4_some, ob5_some, ob6_some, ob7_some, ob8_some, if_true, if_false, if_pos, if_neg, Sum.elim_inl, Sum.elim_inr, un1, un2, un3, un4, un5, Nat.zero_add, Nat.add_zero, Nat.mul_one, Nat.mul_zero, Nat.sub_zero, pk_us, pk_uLs, xoq_l, xoq_r, nI_sle, S_X8_update_18, h3, h4, f1]
          simp (disch := omega) only [fa_lit, fa_litL, nI_add, pk_mul, pk_sub, nI_clamp, gi_n, gb_0, gb_1, nI_ltI, nI_leI, nI_eq, lc_lt, lc_gt, lc_ge, lc_le, lc_eq, lN_i, nI_l, lN_add, lN_mul, lN_lt, lN_le, lN_eq, mI_eqR, mI_eqL, mI_ltL, mI_ltR, mI_leL, mI_leR, mI_add, ob1_some, ob2_some, ob3_some, ob4_some, ob5_some, ob6_some, ob7_some, ob8_some, if_true, if_false, if_pos, if_neg, Sum.elim_inl, Sum.elim_inr, un1, un2, un3, un4, un5, Nat.zero_add, Nat.add_zero, Nat.mul_one, Nat.mul_zero, Nat.sub_zero, pk_us, pk_uLs, xoq_l, xoq_r, nI_sle, f4]
          exact h9
        · show C2 (c * 24 + w) = _
          by_cases h0 : c = j
          · subst h0; exact f2 w hw
          · rw [f3 _ (Or.inl (by omega))]; exact e3 c (by omega) w hw
        · show C2 i = _
          rw [f3 _ (Or.inr (by omega))]; exact e4 i (by omega) hi2
      · have h8 : j = x.2.1 + 1 := by omega
        subst h8
        refine ⟨S, C, ?_, e2, fun c hc w hw => e3 c (by omega) w hw⟩
        simp (disch := omega) only [fa_lit, fa_litL, nI_add, pk_mul, pk_sub, nI_clamp, gi_n, gb_0, gb_1, nI_ltI, nI_leI, nI_eq, lc_lt, lc_gt, lc_ge, lc_le, lc_eq, lN_i, nI_l, lN_add, lN_mul, lN_lt, lN_le, lN_eq, mI_eqR, mI_eqL, mI_ltL, mI_ltR, mI_leL, mI_leR, mI_add, ob1_some, ob2_some, ob3_some, ob4_some, ob5_some, ob6_some, ob7_some, ob8_some, if_true, if_false, if_pos, if_neg, Sum.elim_inl, Sum.elim_inr, un1, un2, un3, un4, un5, Nat.zero_add, Nat.add_zero, Nat.mul_one, Nat.mul_zero, Nat.sub_zero, pk_us, pk_uLs, xoq_l, xoq_r, nI_sle, S_X8_update_18]
    obtain ⟨s2, c2, f1, f2, f3⟩ := key
    rw [ob2_s f1]
    exact ⟨s2, c2, rfl, fun y hy => by rw [hx] at hy; cases hy; exact ⟨f2, f3⟩⟩
variable {spd cnt : Nat → Int32}
theorem p_stands (hV : VA A) (hx : tbl A 0 = some x) (hT : TV A spd cnt) {c w : Nat} (hc : c ≤ x.2.1) (hw : w < 24) : F_X8_stands (nI c) (nI w) cnt = some (bI (0 < cu A c w)) := by
  have hn := hV.n
  have hK := (tbl_cht hx).K
  have h1 := (hT x hx).2 c hc w hw
  have h2 := cu_le hV hx hc (w := w)
  by_cases h3 : 0 < cu A c w
  · rw [bI_1 h3]; simp (disch := omega) only [fa_lit, fa_litL, nI_add, pk_mul, pk_sub, nI_clamp, gi_n, gb_0, gb_1, nI_ltI, nI_leI, nI_eq, lc_lt, lc_gt, lc_ge, lc_le, lc_eq, lN_i, nI_l, lN_add, lN_mul, lN_lt, lN_le, lN_eq, mI_eqR, mI_eqL, mI_ltL, mI_ltR, mI_leL, mI_leR, mI_add, ob1_some, ob2_some, ob3_some, ob4_some, ob5_some, ob6_some, ob7_some, ob8_some, if_true, if_false, if_pos, if_neg, Sum.elim_inl, Sum.elim_inr, un1, un2, un3, un4, un5, Nat.zero_add, Nat.add_zero, Nat.mul_one, Nat.mul_zero, Nat.sub_zero, pk_us, pk_uLs, xoq_l, xoq_r, nI_sle, F_X8_stands, h1]
  · rw [bI_0 h3]; simp (disch := omega) only [fa_lit, fa_litL, nI_add, pk_mul, pk_sub, nI_clamp, gi_n, gb_0, gb_1, nI_ltI, nI_leI, nI_eq, lc_lt, lc_gt, lc_ge, lc_le, lc_eq, lN_i, nI_l, lN_add, lN_mul, lN_lt, lN_le, lN_eq, mI_eqR, mI_eqL, mI_ltL, mI_ltR, mI_leL, mI_leR, mI_add, ob1_some, ob2_some, ob3_some, ob4_some, ob5_some, ob6_some, ob7_some, ob8_some, if_true, if_false, if_pos, if_neg, Sum.elim_inl, Sum.elim_inr, un1, un2, un3, un4, un5, Nat.zero_add, Nat.add_zero, Nat.mul_one, Nat.mul_zero, Nat.sub_zero, pk_us, pk_uLs, xoq_l, xoq_r, nI_sle, F_X8_stands, h1]
theorem p_differentWords (hV : VA A) (hx : tbl A 0 = some x) (hT : TV A spd cnt) {c : Nat} (hc : c ≤ x.2.1) : F_X8_differentWords (nI c) cnt = some (nI (dfw A c (A 7))) := by
  have hnw := hV.nw
  have h0 := dfw_cut hV hx hc (24 - A 7)
  rw [show A 7 + (24 - A 7) = 24 by omega] at h0
  rw [← h0]
  unfold F_X8_differentWords
  refine ob1_t (whf (fun j => (nI (dfw A c j), nI j)) 0 24 rfl (by omega) (by omega) (fun j _ hj k => ?_) (fun k => ?_)) rfl
  · have h1 := p_stands hV hx hT hc hj
    by_cases h2 : 0 < cu A c j
    · rw [bI_1 h2] at h1
      rw [dfw_s, if_pos h2]
      simp (disch := omega) only [fa_lit, fa_litL, nI_add, pk_mul, pk_sub, nI_clamp, gi_n, gb_0, gb_1, nI_ltI, nI_leI, nI_eq, lc_lt, lc_gt, lc_ge, lc_le, lc_eq, lN_i, nI_l, lN_add, lN_mul, lN_lt, lN_le, lN_eq, mI_eqR, mI_eqL, mI_ltL, mI_ltR, mI_leL, mI_leR, mI_add, ob1_some, ob2_some, ob3_some, ob4_some, ob5_some, ob6_some, ob7_some, ob8_some, if_true, if_false, if_pos, if_neg, Sum.elim_inl, Sum.elim_inr, un1, un2, un3, un4, un5, Nat.zero_add, Nat.add_zero, Nat.mul_one, Nat.mul_zero, Nat.sub_zero, pk_us, pk_uLs, xoq_l, xoq_r, nI_sle, S_X8_differentWords_4, h1]
    · rw [bI_0 h2] at h1
      rw [dfw_s, if_neg h2]
      simp (disch := omega) only [fa_lit, fa_litL, nI_add, pk_mul, pk_sub, nI_clamp, gi_n, gb_0, gb_1, nI_ltI, nI_leI, nI_eq, lc_lt, lc_gt, lc_ge, lc_le, lc_eq, lN_i, nI_l, lN_add, lN_mul, lN_lt, lN_le, lN_eq, mI_eqR, mI_eqL, mI_ltL, mI_ltR, mI_leL, mI_leR, mI_add, ob1_some, ob2_some, ob3_some, ob4_some, ob5_some, ob6_some, ob7_some, ob8_some, if_true, if_false, if_pos, if_neg, Sum.elim_inl, Sum.elim_inr, un1, un2, un3, un4, un5, Nat.zero_add, Nat.add_zero, Nat.mul_one, Nat.mul_zero, Nat.sub_zero, pk_us, pk_uLs, xoq_l, xoq_r, nI_sle, S_X8_differentWords_4, h1]
  · simp (disch := omega) only [fa_lit, fa_litL, nI_add, pk_mul, pk_sub, nI_clamp, gi_n, gb_0, gb_1, nI_ltI, nI_leI, nI_eq, lc_lt, lc_gt, lc_ge, lc_le, lc_eq, lN_i, nI_l, lN_add, lN_mul, lN_lt, lN_le, lN_eq, mI_eqR, mI_eqL, mI_ltL, mI_ltR, mI_leL, mI_leR, mI_add, ob1_some, ob2_some, ob3_some, ob4_some, ob5_some, ob6_some, ob7_some, ob8_some, if_true, if_false, if_pos, if_neg, Sum.elim_inl, Sum.elim_inr, un1, un2, un3, un4, un5, Nat.zero_add, Nat.add_zero, Nat.mul_one, Nat.mul_zero, Nat.sub_zero, pk_us, pk_uLs, xoq_l, xoq_r, nI_sle, S_X8_differentWords_4]
theorem p_markOf (hV : VA A) (hx : tbl A 0 = some x) (hT : TV A spd cnt) {c w : Nat} (hc : c ≤ x.2.1) (hw : w < 24) : F_X8_markOf (nI c) (nI w) spd cnt = some (nI (mk A x.2.1 c w)) := by
  have hn := hV.n
  have hK := (tbl_cht hx).K
  have h1 := (hT x hx).2 c hc w hw
  have h2 := (hT x hx).1 w hw
  have h3 := spr_le A w (x.2.1 + 1)
  have h4 := cu_le hV hx hc (w := w)
  unfold mk
  by_cases h5 : spr A w (x.2.1 + 1) = 0
  · have h6 : cu A c w = 0 := by
      rcases Nat.eq_zero_or_pos (cu A c w) with h | h
      · exact h
      · have := spr_pos h (x.2.1 + 1) (by omega); omega
    rw [if_pos h6]
    simp (disch := omega) only [fa_lit, fa_litL, nI_add, pk_mul, pk_sub, nI_clamp, gi_n, gb_0, gb_1, nI_ltI, nI_leI, nI_eq, lc_lt, lc_gt, lc_ge, lc_le, lc_eq, lN_i, nI_l, lN_add, lN_mul, lN_lt, lN_le, lN_eq, mI_eqR, mI_eqL, mI_ltL, mI_ltR, mI_leL, mI_leR, mI_add, ob1_some, ob2_some, ob3_some, ob4_some, ob5_some, ob6_some, ob7_some, ob8_some, if_true, if_false, if_pos, if_neg, Sum.elim_inl, Sum.elim_inr, un1, un2, un3, un4, un5, Nat.zero_add, Nat.add_zero, Nat.mul_one, Nat.mul_zero, Nat.sub_zero, pk_us, pk_uLs, xoq_l, xoq_r, nI_sle, F_X8_markOf, h2]
  · have h7 : ¬ nI (spr A w (x.2.1 + 1)) = nI 0 := fun h => h5 ((nI_eq (by omega) (by omega)).mp h)
    have h8 : nI (1000 * cu A c w) / nI (spr A w (x.2.1 + 1)) = nI (if cu A c w = 0 then 0 else 1000 * cu A c w / spr A w (x.2.1 + 1)) := by
      rw [pk_div (by omega) (by omega) (by omega)]
      by_cases h9 : cu A c w = 0
      · rw [if_pos h9, h9, Nat.mul_zero, Nat.zero_div]
      · rw [if_neg h9]
    simp (disch := omega) only [fa_lit, fa_litL, nI_add, pk_mul, pk_sub, nI_clamp, gi_n, gb_0, gb_1, nI_ltI, nI_leI, nI_eq, lc_lt, lc_gt, lc_ge, lc_le, lc_eq, lN_i, nI_l, lN_add, lN_mul, lN_lt, lN_le, lN_eq, mI_eqR, mI_eqL, mI_ltL, mI_ltR, mI_leL, mI_leR, mI_add, ob1_some, ob2_some, ob3_some, ob4_some, ob5_some, ob6_some, ob7_some, ob8_some, if_true, if_false, if_pos, if_neg, Sum.elim_inl, Sum.elim_inr, un1, un2, un3, un4, un5, Nat.zero_add, Nat.add_zero, Nat.mul_one, Nat.mul_zero, Nat.sub_zero, pk_us, pk_uLs, xoq_l, xoq_r, nI_sle, F_X8_markOf, h2, h1, gzi, h7, h8]
theorem p_chapterLikeness (hV : VA A) (hx : tbl A 0 = some x) (hT : TV A spd cnt) {c e : Nat} (hc : c ≤ x.2.1) (he : e ≤ x.2.1) : F_X8_chapterLikeness (nI c) (nI e) cnt = some (nI (lk A (bg (tbl A) c) (en (tbl A) (bg (tbl A) c) + 1 - bg (tbl A) c) (bg (tbl A) e) (en (tbl A) (bg (tbl A) e) + 1 - bg (tbl A) e))) := by
  have hn := hV.n
  have hK := (tbl_cht hx).K
  have h1 := (tbl_cht hx).1 c hc
  have h2 := (tbl_cht hx).le (i := c + 1) (j := x.2.1 + 1) (by omega) (Nat.le_refl _)
  have h3 := (tbl_cht hx).1 e he
  have h4 := (tbl_cht hx).le (i := e + 1) (j := x.2.1 + 1) (by omega) (Nat.le_refl _)
  rw [(tbl_cht hx).2, bg_s] at h2 h4
  have g := p_percentAlike' (n0' := 768) (n2' := 768) (o1 := c * 24) (o2 := e * 24) (p0 := cnt) (c := fun w => cu A c w) (e := fun w => cu A e w) (by omega) (by omega) (by omega) ((hT x hx).2 c hc) ((hT x hx).2 e he) (fun w _ => ⟨cu_le hV hx hc, cu_le hV hx he⟩)
  have g2 := lkv_cut hV (f := bg (tbl A) c) (d := en (tbl A) (bg (tbl A) c) + 1 - bg (tbl A) c) (g := bg (tbl A) e) (e := en (tbl A) (bg (tbl A) e) + 1 - bg (tbl A) e) (by omega) (by omega)
  unfold cu at g
  rw [g2] at g
  simp (disch := omega) only [fa_lit, fa_litL, nI_add, pk_mul, pk_sub, nI_clamp, gi_n, gb_0, gb_1, nI_ltI, nI_leI, nI_eq, lc_lt, lc_gt, lc_ge, lc_le, lc_eq, lN_i, nI_l, lN_add, lN_mul, lN_lt, lN_le, lN_eq, mI_eqR, mI_eqL, mI_ltL, mI_ltR, mI_leL, mI_leR, mI_add, ob1_some, ob2_some, ob3_some, ob4_some, ob5_some, ob6_some, ob7_some, ob8_some, if_true, if_false, if_pos, if_neg, Sum.elim_inl, Sum.elim_inr, un1, un2, un3, un4, un5, Nat.zero_add, Nat.add_zero, Nat.mul_one, Nat.mul_zero, Nat.sub_zero, pk_us, pk_uLs, xoq_l, xoq_r, nI_sle, F_X8_chapterLikeness, g]
theorem p_mostTypical (hV : VA A) (h : TR A sc wc ord dur pau siz wor nam) (hx : tbl A 0 = some x) (hT : TV A spd cnt) {c : Nat} (hc : c ≤ x.2.1) : F_X8_mostTypical (nI c) (nI (bg (tbl A) c)) (nI (en (tbl A) (bg (tbl A) c))) spd cnt ord siz wor = some (nI (typ A x.2.1 c)) := by
  have hn := hV.n
  have hnw := hV.nw
  have h1 := (tbl_cht hx).1 c hc
  have h2 := (tbl_cht hx).le (i := c + 1) (j := x.2.1 + 1) (by omega) (Nat.le_refl _)
  rw [(tbl_cht hx).2, bg_s] at h2
  obtain ⟨f, hf⟩ : ∃ f, f = bg (tbl A) c := ⟨_, rfl⟩
  obtain ⟨t, ht⟩ : ∃ t, t = en (tbl A) (bg (tbl A) c) := ⟨_, rfl⟩
  unfold typ
  rw [← ht, ← hf]
  rw [← ht, ← hf] at h1
  rw [← ht] at h2
  unfold F_X8_mostTypical
  simp only [fa_lit]
  refine ob1_t (whf (fun d => (nI (tyi A x.2.1 c f d).1, iI (tyi A x.2.1 c f d).2, nI (f + d))) 0 (t + 1 - f) ?_ (by omega) (by omega) (fun j _ hj k => ?_) (fun k => ?_)) rfl
  · have e : -nI 1 = iI (-1) := by rw [iI_n, iI_neg]; rfl
    rw [e]; rfl
  · have g1 := hV.seg (s := f + j) (by omega)
    have g2 : wh (fun k q => S_X8_mostTypical_30 (nI c) (nI t) (nI (tyi A x.2.1 c f j).1) (iI (tyi A x.2.1 c f j).2) (nI (f + j)) (nI (oA A (f + j) 2)) spd cnt ord siz wor k q.1 q.2) wF (nI 0, nI 0) = some (nI (tsm A x.2.1 c (f + j) (oA A (f + j) 2))) := by
      refine whf (fun i => (nI (tsm A x.2.1 c (f + j) i), nI i)) 0 (oA A (f + j) 2) rfl (by omega) (by omega) (fun i _ hi k => ?_) (fun k => ?_)
      · have g3 := hV.wd (s := f + j) (k := i) (by omega) hi
        simp (disch := omega) only [fa_lit, fa_litL, nI_add, pk_mul, pk_sub, nI_clamp, gi_n, gb_0, gb_1, nI_ltI, nI_leI, nI_eq, lc_lt, lc_gt, lc_ge, lc_le, lc_eq, lN_i, nI_l, lN_add, lN_mul, lN_lt, lN_le, lN_eq, mI_eqR, mI_eqL, mI_ltL, mI_ltR, mI_leL, mI_leR, mI_add, ob1_some, ob2_some, ob3_some, ob4_some, ob5_some, ob6_some, ob7_some, ob8_some, if_true, if_false, if_pos, if_neg, Sum.elim_inl, Sum.elim_inr, un1, un2, un3, un4, un5, Nat.zero_add, Nat.add_zero, Nat.mul_one, Nat.mul_zero, Nat.sub_zero, pk_us, pk_uLs, xoq_l, xoq_r, nI_sle, S_X8_mostTypical_30, p_wordAt hV h, p_markOf hV hx hT, tsm_s]
      · simp (disch := omega) only [fa_lit, fa_litL, nI_add, pk_mul, pk_sub, nI_clamp, gi_n, gb_0, gb_1, nI_ltI, nI_leI, nI_eq, lc_lt, lc_gt, lc_ge, lc_le, lc_eq, lN_i, nI_l, lN_add, lN_mul, lN_lt, lN_le, lN_eq, mI_eqR, mI_eqL, mI_ltL, mI_ltR, mI_leL, mI_leR, mI_add, ob1_some, ob2_some, ob3_some, ob4_some, ob5_some, ob6_some, ob7_some, ob8_some, if_true, if_false, if_pos, if_neg, Sum.elim_inl, Sum.elim_inr, un1, un2, un3, un4, un5, Nat.zero_add, Nat.add_zero, Nat.mul_one, Nat.mul_zero, Nat.sub_zero, pk_us, pk_uLs, xoq_l, xoq_r, nI_sle, S_X8_mostTypical_30]
    have g4 := tyi_b hV hx (f := f) hc j (by omega)
    have g5 := tsm_le hV hx hc (s := f + j) (oA A (f + j) 2)
    have g6 : (nI (tsm A x.2.1 c (f + j) (oA A (f + j) 2)) ≤ iI (tyi A x.2.1 c f j).2) = ((tsm A x.2.1 c (f + j) (oA A (f + j) 2) : Int) ≤ (tyi A x.2.1 c f j).2) := by
      rw [iI_n, iI_le (by omega) (by omega) (by omega) (by omega)]
    rw [tyi_s]
    by_cases g7 : (tyi A x.2.1 c f j).2 < tsm A x.2.1 c (f + j) (oA A (f + j) 2)
    · have g8 : iI ((tsm A x.2.1 c (f + j) (oA A (f + j) 2) : Nat) : Int) = nI (tsm A x.2.1 c (f + j) (oA A (f + j) 2)) := (iI_n _).symm
      rw [if_pos g7]
      simp (disch := omega) only [fa_lit, fa_litL, nI_add, pk_mul, pk_sub, nI_clamp, gi_n, gb_0, gb_1, nI_ltI, nI_leI, nI_eq, lc_lt, lc_gt, lc_ge, lc_le, lc_eq, lN_i, nI_l, lN_add, lN_mul, lN_lt, lN_le, lN_eq, mI_eqR, mI_eqL, mI_ltL, mI_ltR, mI_leL, mI_leR, mI_add, ob1_some, ob2_some, ob3_some, ob4_some, ob5_some, ob6_some, ob7_some, ob8_some, if_true, if_false, if_pos, if_neg, Sum.elim_inl, Sum.elim_inr, un1, un2, un3, un4, un5, Nat.zero_add, Nat.add_zero, Nat.mul_one, Nat.mul_zero, Nat.sub_zero, pk_us, pk_uLs, xoq_l, xoq_r, nI_sle, S_X8_mostTypical_9, p_sizeOf hV h, g2, g6, g8, Nat.add_assoc]
    · rw [if_neg g7]
      simp (disch := omega) only [fa_lit, fa_litL, nI_add, pk_mul, pk_sub, nI_clamp, gi_n, gb_0, gb_1, nI_ltI, nI_leI, nI_eq, lc_lt, lc_gt, lc_ge, lc_le, lc_eq, lN_i, nI_l, lN_add, lN_mul, lN_lt, lN_le, lN_eq, mI_eqR, mI_eqL, mI_ltL, mI_ltR, mI_leL, mI_leR, mI_add, ob1_some, ob2_some, ob3_some, ob4_some, ob5_some, ob6_some, ob7_some, ob8_some, if_true, if_false, if_pos, if_neg, Sum.elim_inl, Sum.elim_inr, un1, un2, un3, un4, un5, Nat.zero_add, Nat.add_zero, Nat.mul_one, Nat.mul_zero, Nat.sub_zero, pk_us, pk_uLs, xoq_l, xoq_r, nI_sle, S_X8_mostTypical_9, p_sizeOf hV h, g2, g6, Nat.add_assoc]
  · simp (disch := omega) only [fa_lit, fa_litL, nI_add, pk_mul, pk_sub, nI_clamp, gi_n, gb_0, gb_1, nI_ltI, nI_leI, nI_eq, lc_lt, lc_gt, lc_ge, lc_le, lc_eq, lN_i, nI_l, lN_add, lN_mul, lN_lt, lN_le, lN_eq, mI_eqR, mI_eqL, mI_ltL, mI_ltR, mI_leL, mI_leR, mI_add, ob1_some, ob2_some, ob3_some, ob4_some, ob5_some, ob6_some, ob7_some, ob8_some, if_true, if_false, if_pos, if_neg, Sum.elim_inl, Sum.elim_inr, un1, un2, un3, un4, un5, Nat.zero_add, Nat.add_zero, Nat.mul_one, Nat.mul_zero, Nat.sub_zero, pk_us, pk_uLs, xoq_l, xoq_r, nI_sle, S_X8_mostTypical_9]
end
