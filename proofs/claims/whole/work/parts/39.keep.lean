/-! ===== the kept version, what is carried over; places of times and names ===== -/
def kpA (A : Nat → Nat) : Nat → Nat := fun j => if j = 409 then 1 else if j = 410 then A 6 else if 411 ≤ j ∧ j < 475 then (if (j - 411) / 2 < A 6 then oA A ((j - 411) / 2) (if (j - 411) % 2 = 0 then 11 else 0) else 0) else A j
theorem kp_n {A : Nat → Nat} {j : Nat} (h : j < 409 ∨ 475 ≤ j) : kpA A j = A j := by
  unfold kpA
  rw [if_neg (by omega), if_neg (by omega), if_neg (by omega)]
theorem kp_0 {A : Nat → Nat} {s : Nat} (hs : s < 32) : kpA A (411 + 2 * s) = if s < A 6 then oA A s 11 else 0 := by
  unfold kpA
  rw [if_neg (by omega), if_neg (by omega), if_pos (by omega), show (411 + 2 * s - 411) / 2 = s by omega, show (411 + 2 * s - 411) % 2 = 0 by omega, if_pos rfl]
theorem kp_1 {A : Nat → Nat} {s : Nat} (hs : s < 32) : kpA A (411 + 2 * s + 1) = if s < A 6 then oA A s 0 else 0 := by
  unfold kpA
  rw [if_neg (by omega), if_neg (by omega), if_pos (by omega), show (411 + 2 * s + 1 - 411) / 2 = s by omega, show (411 + 2 * s + 1 - 411) % 2 = 1 by omega, if_neg (show ¬ 1 = 0 by omega)]
theorem kp_o {A : Nat → Nat} {s w : Nat} (hs : s < 32) (hw : w < 12) : oA (kpA A) s w = oA A s w := kp_n (by omega)
theorem kp_sp {A : Nat → Nat} : ∀ s, s ≤ 32 → sp (kpA A) s = sp A s := by
  intro s
  induction s with
  | zero => intro _; rfl
  | succ s ih => intro hs; rw [sp_s, sp_s, ih (by omega), kp_o (by omega) (by omega)]
theorem kp_ksm {A : Nat → Nat} (hn : A 6 ≤ 32) : ∀ s, s ≤ A 6 → ksm (kpA A) s = sp A s := by
  intro s
  induction s with
  | zero => intro _; rfl
  | succ s ih => intro hs; rw [ksm_s, sp_s, ih (by omega), kp_1 (by omega), if_pos (by omega)]
theorem kp_VA {A : Nat → Nat} (hV : VA A) : VA (kpA A) := by
  have hn := hV.n
  have hnw := hV.nw
  have hl := hV.nl
  have hseg := fun s hs => hV.seg (s := s) hs
  obtain ⟨c1, ⟨i1, i2, i3⟩, ⟨j1, j2⟩, ⟨k1, k2, k3⟩, l1⟩ := hV
  have e := fun j => kp_n (A := A) (j := j)
  have ho : ∀ s w, s < A 6 → w < 12 → oA (kpA A) s w = oA A s w := fun s w hs hw => kp_o (by omega) hw
  have e9 : kpA A 409 = 1 := if_pos rfl
  have e10 : kpA A 410 = A 6 := by unfold kpA; rw [if_neg (by omega), if_pos rfl]
  unfold VA
  rw [e 0 (by omega), e 1 (by omega), e 2 (by omega), e 3 (by omega), e 4 (by omega), e 5 (by omega), e 6 (by omega), e 7 (by omega), e 8 (by omega), e9, e10]
  refine ⟨c1, ⟨fun t ht => ?_, fun t ht k hk => ?_, fun t u ht hu hh => ?_⟩, ⟨fun i hi => ?_, fun i j hij hj => ?_⟩, ⟨Nat.le_refl _, hn, fun s hs => ?_⟩, fun w hw => ?_⟩
  · rw [ho t 0 ht (by omega), ho t 1 ht (by omega), ho t 2 ht (by omega), ho t 11 ht (by omega)]; exact i1 t ht
  · have b := i1 t ht
    rw [ho t 2 ht (by omega)] at hk
    rw [ho t (3 + k) ht (by omega)]; exact i2 t ht k hk
  · rw [ho t 11 ht (by omega), ho u 11 hu (by omega)] at hh; exact i3 t u ht hu hh
  · rw [e _ (by omega), e _ (by omega), e _ (by omega)]; exact j1 i hi
  · rw [e _ (by omega), e _ (by omega)]; exact j2 i j hij hj
  · have b := hseg s hs
    rw [kp_0 (by omega), kp_1 (by omega), if_pos hs, if_pos hs]; omega
  · rw [e _ (by omega)]; exact l1 w hw
/-- where the segment of the kept row i is now; the number of segments: none -/
def nwa (A : Nat → Nat) (i : Nat) : Nat := fi (fun s => oA A s 11 == A (411 + 2 * i)) (A 6)
theorem nwa_b {A : Nat → Nat} {i : Nat} : nwa A i ≤ A 6 := fi_le _ _
/-- what a time of the kept version becomes -/
def CR (A : Nat → Nat) (t r : Nat) : Prop := ∃ i, i ≤ A 410 ∧ (∀ j, j < i → ¬ (t < ksm A (j + 1) ∧ nwa A j < A 6)) ∧ ((i = A 410 ∧ r = sp A (A 6)) ∨ (i < A 410 ∧ t < ksm A (i + 1) ∧ nwa A i < A 6 ∧ r = sp A (nwa A i) + (if t - ksm A i < oA A (nwa A i) 0 then t - ksm A i else oA A (nwa A i) 0)))
theorem CR_one {A : Nat → Nat} {t r r' : Nat} (h : CR A t r) (h' : CR A t r') : r = r' := by
  obtain ⟨i, h1, h2, h3⟩ := h
  obtain ⟨i', g1, g2, g3⟩ := h'
  have e : i = i' := by
    rcases Nat.lt_trichotomy i i' with q | q | q
    · rcases h3 with h3 | h3
      · omega
      · exact absurd ⟨h3.2.1, h3.2.2.1⟩ (g2 i q)
    · exact q
    · rcases g3 with g3 | g3
      · omega
      · exact absurd ⟨g3.2.1, g3.2.2.1⟩ (h2 i' q)
  subst e
  rcases h3 with h3 | h3
  · rcases g3 with g3 | g3
    · rw [h3.2, g3.2]
    · omega
  · rcases g3 with g3 | g3
    · omega
    · rw [h3.2.2.2, g3.2.2.2]
theorem ksm_mono (A : Nat → Nat) {s t : Nat} (h : s ≤ t) : ksm A s ≤ ksm A t := by
  induction t with
  | zero => have h1 : s = 0 := by omega
            subst h1; exact Nat.le_refl _
  | succ t ih =>
    by_cases h1 : s ≤ t
    · have := ih h1; rw [ksm_s]; omega
    · have h2 : s = t + 1 := by omega
      subst h2; exact Nat.le_refl _
theorem ksm_b {A : Nat → Nat} (hV : VA A) : ∀ s, s ≤ A 410 → ksm A s ≤ 999 * s := by
  have hk := hV.kept
  intro s
  induction s with
  | zero => intro _; exact Nat.le_refl 0
  | succ s ih =>
    intro hs
    have h1 := ih (by omega)
    have h2 := hk.2.2 s (by omega)
    rw [ksm_s]; omega
section
variable {A : Nat → Nat} {a : Nat → Int64} {sc wc : Int32} {ord dur pau siz wor : Nat → Int32} {nam : Nat → Int64} {ex n tot : Int32} {rws_ sts drs : Nat → Int32}
theorem p_takeVersion (hV : VA A) (h : TR A sc wc ord dur pau siz wor nam) : ∃ r' s' d', F_X2_takeVersion ex n tot rws_ sts drs sc ord dur = some (nI 1, nI (A 6), nI (sp A (A 6)), r', s', d') ∧ KR (kpA A) (nI 1) (nI (A 6)) (nI (sp A (A 6))) r' s' d' := by
  have hn := hV.n
  have hsc := h.1
  subst hsc
  obtain ⟨r', s', d', f1, f2⟩ : ∃ r' s' d', wh (fun k q => S_X2_takeVersion_20 (nI 1) (nI (A 6)) ord dur k q.1 q.2.1 q.2.2.1 q.2.2.2.1 q.2.2.2.2) wF (nI 0, nI 0, rws_, sts, drs) = some (nI (sp A (A 6)), r', s', d') ∧ ∀ s, s < A 6 → r' s = nI (oA A s 11) ∧ s' s = nI (sp A s) ∧ d' s = nI (oA A s 0) := by
    refine wh_up (A 6) (by omega) (fun (j : Nat) (q : Int32 × (Int32) × (Nat → Int32) × (Nat → Int32) × (Nat → Int32)) => q.1 = nI j ∧ q.2.1 = nI (sp A j) ∧ ∀ s, s < j → q.2.2.1 s = nI (oA A s 11) ∧ q.2.2.2.1 s = nI (sp A s) ∧ q.2.2.2.2 s = nI (oA A s 0)) (fun (o : Option (((Int32) × (Nat → Int32) × (Nat → Int32) × (Nat → Int32)))) => ∃ r' s' d', o = some (nI (sp A (A 6)), r', s', d') ∧ ∀ s, s < A 6 → r' s = nI (oA A s 11) ∧ s' s = nI (sp A s) ∧ d' s = nI (oA A s 0)) (fun j q hj hI k hk => ?_) (Nat.zero_le _) ⟨rfl, rfl, fun s hs => absurd hs (Nat.not_lt_zero s)⟩
    obtain ⟨l, t, P1, P2, P3⟩ := q
    obtain ⟨e1, e2, e3⟩ := hI
    have e1 : l = nI j := e1
    have e2 : t = nI (sp A j) := e2
    subst e1; subst e2
    have e3 : ∀ s, s < j → P1 s = nI (oA A s 11) ∧ P2 s = nI (sp A s) ∧ P3 s = nI (oA A s 0) := e3
    by_cases hlt : j < A 6
    · have h1 := (h.2.2.1 j hlt).1
      have h9 := hk hlt (nI (j + 1), nI (sp A (j + 1)), upd P1 j (nI (oA A j 11)), upd P2 j (nI (sp A j)), upd P3 j (nI (oA A j 0))) ⟨rfl, rfl, fun s hs => ?_⟩
      · rw [sp_s] at h9
        simp (disch := omega) only [fa_lit, fa_litL, nI_add, pk_mul, pk_sub, nI_clamp, gi_n, gb_0, gb_1, nI_ltI, nI_leI, nI_eq, lc_lt, lc_gt, lc_ge, lc_le, lc_eq, lN_i, nI_l, lN_add, lN_mul, lN_lt, lN_le, lN_eq, mI_eqR, mI_eqL, mI_ltL, mI_ltR, mI_leL, mI_leR, mI_add, ob1_some, ob2_some, ob3_some, ob4_some, ob5_some, ob6_some, ob7_some, ob8_some, if_true, if_false, if_pos, if_neg, Sum.elim_inl, Sum.elim_inr, un1, un2, un3, un4, un5, Nat.zero_add, Nat.add_zero, Nat.mul_one, Nat.mul_zero, Nat.sub_zero, pk_us, pk_uLs, xoq_l, xoq_r, nI_sle, S_X2_takeVersion_20, p_durationOf hV h, h1]
        exact h9
      · show upd P1 j _ s = _ ∧ upd P2 j _ s = _ ∧ upd P3 j _ s = _
        by_cases h0 : s = j
        · subst h0; exact ⟨pk_us, pk_us, pk_us⟩
        · rw [pk_un h0, pk_un h0, pk_un h0]; exact e3 s (by omega)
    · have h8 : j = A 6 := by omega
      subst h8
      refine ⟨P1, P2, P3, ?_, e3⟩
      simp (disch := omega) only [fa_lit, fa_litL, nI_add, pk_mul, pk_sub, nI_clamp, gi_n, gb_0, gb_1, nI_ltI, nI_leI, nI_eq, lc_lt, lc_gt, lc_ge, lc_le, lc_eq, lN_i, nI_l, lN_add, lN_mul, lN_lt, lN_le, lN_eq, mI_eqR, mI_eqL, mI_ltL, mI_ltR, mI_leL, mI_leR, mI_add, ob1_some, ob2_some, ob3_some, ob4_some, ob5_some, ob6_some, ob7_some, ob8_some, if_true, if_false, if_pos, if_neg, Sum.elim_inl, Sum.elim_inr, un1, un2, un3, un4, un5, Nat.zero_add, Nat.add_zero, Nat.mul_one, Nat.mul_zero, Nat.sub_zero, pk_us, pk_uLs, xoq_l, xoq_r, nI_sle, S_X2_takeVersion_20]
  refine ⟨r', s', d', ?_, ?_⟩
  · unfold F_X2_takeVersion
    simp only [fa_lit]
    rw [ob4_s f1]
  · have e9 : kpA A 409 = 1 := if_pos rfl
    have e10 : kpA A 410 = A 6 := by unfold kpA; rw [if_neg (by omega), if_pos rfl]
    unfold KR
    rw [e9, e10, kp_ksm hn _ (Nat.le_refl _)]
    refine ⟨rfl, fun _ => ⟨rfl, rfl, fun s hs => ?_⟩⟩
    rw [kp_0 (by omega), kp_1 (by omega), if_pos hs, if_pos hs, kp_ksm hn _ (by omega)]
    exact f2 s hs
theorem q_keepLoop (hV : VA A) (hM : MR A a) {km th : Int32} {kp : Nat → Int64} : ∃ a', wh (fun k q => S_X11_keep_33 km th kp k q.1 q.2) wF (nI 0, vp_updL (vp_updL a 409 (lN 1)) 410 (lN (A 6))) = some a' ∧ MR (kpA A) a' := by
  have hn := hV.n
  refine wh_up 32 (by omega) (fun (j : Nat) (q : Int32 × (Nat → Int64)) => q.1 = nI j ∧ (∀ i, i < 499 → i < 411 + 2 * j ∨ 475 ≤ i → q.2 i = lN (kpA A i))) (fun (o : Option (((Nat → Int64)))) => ∃ a', o = some a' ∧ MR (kpA A) a') (fun j q hj hI k hk => ?_) (Nat.zero_le _) ⟨rfl, fun i hi h => ?_⟩
  · obtain ⟨l, P⟩ := q
    obtain ⟨e1, e2⟩ := hI
    have e1 : l = nI j := e1
    subst e1
    have e2 : ∀ i, i < 499 → i < 411 + 2 * j ∨ 475 ≤ i → P i = lN (kpA A i) := e2
    by_cases hlt : j < 32
    · have h6 := e2 6 (by omega) (by omega)
      rw [kp_n (by omega)] at h6
      have h0 := e2 (10 + 12 * j) (by omega) (by omega)
      rw [kp_n (by omega)] at h0
      have h11 := e2 (10 + 12 * j + 11) (by omega) (by omega)
      rw [kp_n (by omega)] at h11
      have h9 := hk hlt (nI (j + 1), vp_updL (vp_updL P (411 + 2 * j) (lN (if j < A 6 then oA A j 11 else 0))) (411 + 2 * j + 1) (lN (if j < A 6 then oA A j 0 else 0))) ⟨rfl, fun i hi h => ?_⟩
      · by_cases h3 : j < A 6
        · have h2 := hV.seg h3
          unfold oA at h2
          rw [Nat.add_zero] at h2
          rw [if_pos h3, if_pos h3] at h9
          unfold oA at h9
          rw [Nat.add_zero] at h9
          simp (disch := omega) only [fa_lit, fa_litL, nI_add, pk_mul, pk_sub, nI_clamp, gi_n, gb_0, gb_1, nI_ltI, nI_leI, nI_eq, lc_lt, lc_gt, lc_ge, lc_le, lc_eq, lN_i, nI_l, lN_add, lN_mul, lN_lt, lN_le, lN_eq, mI_eqR, mI_eqL, mI_ltL, mI_ltR, mI_leL, mI_leR, mI_add, ob1_some, ob2_some, ob3_some, ob4_some, ob5_some, ob6_some, ob7_some, ob8_some, if_true, if_false, if_pos, if_neg, Sum.elim_inl, Sum.elim_inr, un1, un2, un3, un4, un5, Nat.zero_add, Nat.add_zero, Nat.mul_one, Nat.mul_zero, Nat.sub_zero, pk_us, pk_uLs, xoq_l, xoq_r, nI_sle, S_X11_keep_33, F_X11_many, F_X11_of, F_X11_keep_b70, F_X11_keep_b103, h6, h0, h11, pk_uLn, nI_l]
          exact h9
        · rw [if_neg h3, if_neg h3] at h9
          simp (disch := omega) only [fa_lit, fa_litL, nI_add, pk_mul, pk_sub, nI_clamp, gi_n, gb_0, gb_1, nI_ltI, nI_leI, nI_eq, lc_lt, lc_gt, lc_ge, lc_le, lc_eq, lN_i, nI_l, lN_add, lN_mul, lN_lt, lN_le, lN_eq, mI_eqR, mI_eqL, mI_ltL, mI_ltR, mI_leL, mI_leR, mI_add, ob1_some, ob2_some, ob3_some, ob4_some, ob5_some, ob6_some, ob7_some, ob8_some, if_true, if_false, if_pos, if_neg, Sum.elim_inl, Sum.elim_inr, un1, un2, un3, un4, un5, Nat.zero_add, Nat.add_zero, Nat.mul_one, Nat.mul_zero, Nat.sub_zero, pk_us, pk_uLs, xoq_l, xoq_r, nI_sle, S_X11_keep_33, F_X11_many, F_X11_of, F_X11_keep_b70, F_X11_keep_b103, h6, h0, h11, pk_uLn, nI_l]
          exact h9
      · show vp_updL (vp_updL P _ _) _ _ i = _
        by_cases b1 : i = 411 + 2 * j + 1
        · subst b1; rw [pk_uLs, kp_1 hlt]
        · rw [pk_uLn b1]
          by_cases b2 : i = 411 + 2 * j
          · subst b2; rw [pk_uLs, kp_0 hlt]
          · rw [pk_uLn b2]; exact e2 i hi (by omega)
    · have h8 : j = 32 := by omega
      subst h8
      refine ⟨P, ?_, fun i hi => e2 i hi (by omega)⟩
      simp (disch := omega) only [fa_lit, fa_litL, nI_add, pk_mul, pk_sub, nI_clamp, gi_n, gb_0, gb_1, nI_ltI, nI_leI, nI_eq, lc_lt, lc_gt, lc_ge, lc_le, lc_eq, lN_i, nI_l, lN_add, lN_mul, lN_lt, lN_le, lN_eq, mI_eqR, mI_eqL, mI_ltL, mI_ltR, mI_leL, mI_leR, mI_add, ob1_some, ob2_some, ob3_some, ob4_some, ob5_some, ob6_some, ob7_some, ob8_some, if_true, if_false, if_pos, if_neg, Sum.elim_inl, Sum.elim_inr, un1, un2, un3, un4, un5, Nat.zero_add, Nat.add_zero, Nat.mul_one, Nat.mul_zero, Nat.sub_zero, pk_us, pk_uLs, xoq_l, xoq_r, nI_sle, S_X11_keep_33]
  · show vp_updL (vp_updL a 409 (lN 1)) 410 (lN (A 6)) i = _
    by_cases b1 : i = 410
    · subst b1; rw [pk_uLs]; unfold kpA; rw [if_neg (by omega), if_pos rfl]
    · rw [pk_uLn b1]
      by_cases b2 : i = 409
      · subst b2; rw [pk_uLs]; unfold kpA; rw [if_pos rfl]
      · rw [pk_uLn b2, kp_n (by omega)]; exact hM i hi
/-! what is carried -/
theorem q_keptTime (hV : VA A) (hM : MR A a) : F_X11_keptTime a = some (nI (ksm A (A 410))) := by
  have hk := hV.kept
  unfold F_X11_keptTime
  refine ob1_t (whf (fun j => (nI (ksm A j), nI j)) 0 (A 410) rfl (by omega) (by omega) (fun j _ hj k => ?_) (fun k => ?_)) rfl
  · simp (disch := omega) only [fa_lit, fa_litL, nI_add, pk_mul, pk_sub, nI_clamp, gi_n, gb_0, gb_1, nI_ltI, nI_leI, nI_eq, lc_lt, lc_gt, lc_ge, lc_le, lc_eq, lN_i, nI_l, lN_add, lN_mul, lN_lt, lN_le, lN_eq, mI_eqR, mI_eqL, mI_ltL, mI_ltR, mI_leL, mI_leR, mI_add, ob1_some, ob2_some, ob3_some, ob4_some, ob5_some, ob6_some, ob7_some, ob8_some, if_true, if_false, if_pos, if_neg, Sum.elim_inl, Sum.elim_inr, un1, un2, un3, un4, un5, Nat.zero_add, Nat.add_zero, Nat.mul_one, Nat.mul_zero, Nat.sub_zero, pk_us, pk_uLs, xoq_l, xoq_r, nI_sle, S_X11_keptTime_4, hM.at, ksm_s]
  · simp (disch := omega) only [fa_lit, fa_litL, nI_add, pk_mul, pk_sub, nI_clamp, gi_n, gb_0, gb_1, nI_ltI, nI_leI, nI_eq, lc_lt, lc_gt, lc_ge, lc_le, lc_eq, lN_i, nI_l, lN_add, lN_mul, lN_lt, lN_le, lN_eq, mI_eqR, mI_eqL, mI_ltL, mI_ltR, mI_leL, mI_leR, mI_add, ob1_some, ob2_some, ob3_some, ob4_some, ob5_some, ob6_some, ob7_some, ob8_some, if_true, if_false, if_pos, if_neg, Sum.elim_inl, Sum.elim_inr, un1, un2, un3, un4, un5, Nat.zero_add, Nat.add_zero, Nat.mul_one, Nat.mul_zero, Nat.sub_zero, pk_us, pk_uLs, xoq_l, xoq_r, nI_sle, S_X11_keptTime_4, hM.at]
theorem q_nowAt (hV : VA A) (hM : MR A a) {i : Nat} (hi : i < 32) (hr : A (411 + 2 * i) < 32) : F_X11_nowAt (nI i) a = some (rI (nwa A i) (A 6)) := by
  have hn := hV.n
  have hle := nwa_b (A := A) (i := i)
  have hlt := fi_lt (fun s => oA A s 11 == A (411 + 2 * i)) (A 6)
  have hat := fi_at (fun s => oA A s 11 == A (411 + 2 * i)) (A 6)
  have key : wh (fun k q => S_X11_nowAt_2 (nI i) a k q) wF (nI 0) = some (if nwa A i < A 6 then .inl (nI (nwa A i)) else .inr ()) := by
    refine wh_up (nwa A i) (by omega) (fun (j : Nat) (q : Int32) => q = nI j) (fun (o : Option ((Int32) ⊕ (Unit))) => o = some (if nwa A i < A 6 then .inl (nI (nwa A i)) else .inr ())) (fun j q hj hI k hk => ?_) (Nat.zero_le _) rfl
    have hI : q = nI j := hI
    subst hI
    by_cases h1 : j < nwa A i
    · have h2 : oA A j 11 ≠ A (411 + 2 * i) := by simpa using hlt j h1
      have h3 := hV.seg (s := j) (by omega)
      have h9 := hk h1 (nI (j + 1)) rfl
      simp (disch := omega) only [fa_lit, fa_litL, nI_add, pk_mul, pk_sub, nI_clamp, gi_n, gb_0, gb_1, nI_ltI, nI_leI, nI_eq, lc_lt, lc_gt, lc_ge, lc_le, lc_eq, lN_i, nI_l, lN_add, lN_mul, lN_lt, lN_le, lN_eq, mI_eqR, mI_eqL, mI_ltL, mI_ltR, mI_leL, mI_leR, mI_add, ob1_some, ob2_some, ob3_some, ob4_some, ob5_some, ob6_some, ob7_some, ob8_some, if_true, if_false, if_pos, if_neg, Sum.elim_inl, Sum.elim_inr, un1, un2, un3, un4, un5, Nat.zero_add, Nat.add_zero, Nat.mul_one, Nat.mul_zero, Nat.sub_zero, pk_us, pk_uLs, xoq_l, xoq_r, nI_sle, S_X11_nowAt_2, q_many hM, q_of hM, hM.at]
      exact h9
    · have h8 : j = nwa A i := by omega
      by_cases h4 : nwa A i < A 6
      · have h2 : oA A (nwa A i) 11 = A (411 + 2 * i) := by simpa [nwa] using hat h4
        rw [if_pos h4, h8]
        rw [← h8] at h4 h2 ⊢
        simp (disch := omega) only [fa_lit, fa_litL, nI_add, pk_mul, pk_sub, nI_clamp, gi_n, gb_0, gb_1, nI_ltI, nI_leI, nI_eq, lc_lt, lc_gt, lc_ge, lc_le, lc_eq, lN_i, nI_l, lN_add, lN_mul, lN_lt, lN_le, lN_eq, mI_eqR, mI_eqL, mI_ltL, mI_ltR, mI_leL, mI_leR, mI_add, ob1_some, ob2_some, ob3_some, ob4_some, ob5_some, ob6_some, ob7_some, ob8_some, if_true, if_false, if_pos, if_neg, Sum.elim_inl, Sum.elim_inr, un1, un2, un3, un4, un5, Nat.zero_add, Nat.add_zero, Nat.mul_one, Nat.mul_zero, Nat.sub_zero, pk_us, pk_uLs, xoq_l, xoq_r, nI_sle, S_X11_nowAt_2, q_many hM, q_of hM, hM.at, h2]
      · have h5 : nwa A i = A 6 := by omega
        rw [if_neg h4, h8, h5]
        simp (disch := omega) only [fa_lit, fa_litL, nI_add, pk_mul, pk_sub, nI_clamp, gi_n, gb_0, gb_1, nI_ltI, nI_leI, nI_eq, lc_lt, lc_gt, lc_ge, lc_le, lc_eq, lN_i, nI_l, lN_add, lN_mul, lN_lt, lN_le, lN_eq, mI_eqR, mI_eqL, mI_ltL, mI_ltR, mI_leL, mI_leR, mI_add, ob1_some, ob2_some, ob3_some, ob4_some, ob5_some, ob6_some, ob7_some, ob8_some, if_true, if_false, if_pos, if_neg, Sum.elim_inl, Sum.elim_inr, un1, un2, un3, un4, un5, Nat.zero_add, Nat.add_zero, Nat.mul_one, Nat.mul_zero, Nat.sub_zero, pk_us, pk_uLs, xoq_l, xoq_r, nI_sle, S_X11_nowAt_2, q_many hM]
  unfold F_X11_nowAt rI
  simp only [fa_lit]
  rw [key]
  by_cases h4 : nwa A i < A 6
  · rw [if_pos h4, if_pos h4]; rfl
  · rw [if_neg h4, if_neg h4]; rfl
theorem p_segmentOfRow (hV : VA A) (h : TR A sc wc ord dur pau siz wor nam) {i : Nat} (hr : A (411 + 2 * i) < 32) : F_X9_segmentOfRow (nI (A (411 + 2 * i))) sc ord = some (rI (nwa A i) (A 6)) := by
  have hn := hV.n
  have hsc := h.1
  subst hsc
  have hle := nwa_b (A := A) (i := i)
  have hlt := fi_lt (fun s => oA A s 11 == A (411 + 2 * i)) (A 6)
  have hat := fi_at (fun s => oA A s 11 == A (411 + 2 * i)) (A 6)
  have key : wh (fun k q => S_X9_segmentOfRow_2 (nI (A (411 + 2 * i))) (nI (A 6)) ord k q) wF (nI 0) = some (if nwa A i < A 6 then .inl (nI (nwa A i)) else .inr ()) := by
    refine wh_up (nwa A i) (by omega) (fun (j : Nat) (q : Int32) => q = nI j) (fun (o : Option ((Int32) ⊕ (Unit))) => o = some (if nwa A i < A 6 then .inl (nI (nwa A i)) else .inr ())) (fun j q hj hI k hk => ?_) (Nat.zero_le _) rfl
    have hI : q = nI j := hI
    subst hI
    by_cases h1 : j < nwa A i
    · have h2 : oA A j 11 ≠ A (411 + 2 * i) := by simpa using hlt j h1
      have h3 := hV.seg (s := j) (by omega)
      have h4 := (h.2.2.1 j (by omega)).1
      have h9 := hk h1 (nI (j + 1)) rfl
      simp (disch := omega) only [fa_lit, fa_litL, nI_add, pk_mul, pk_sub, nI_clamp, gi_n, gb_0, gb_1, nI_ltI, nI_leI, nI_eq, lc_lt, lc_gt, lc_ge, lc_le, lc_eq, lN_i, nI_l, lN_add, lN_mul, lN_lt, lN_le, lN_eq, mI_eqR, mI_eqL, mI_ltL, mI_ltR, mI_leL, mI_leR, mI_add, ob1_some, ob2_some, ob3_some, ob4_some, ob5_some, ob6_some, ob7_some, ob8_some, if_true, if_false, if_pos, if_neg, Sum.elim_inl, Sum.elim_inr, un1, un2, un3, un4, un5, Nat.zero_add, Nat.add_zero, Nat.mul_one, Nat.mul_zero, Nat.sub_zero, pk_us, pk_uLs, xoq_l, xoq_r, nI_sle, S_X9_segmentOfRow_2, h4]
      exact h9
    · have h8 : j = nwa A i := by omega
      by_cases h4 : nwa A i < A 6
      · have h2 : oA A (nwa A i) 11 = A (411 + 2 * i) := by simpa [nwa] using hat h4
        have h5 := (h.2.2.1 (nwa A i) h4).1
        rw [if_pos h4, h8]
        rw [h2] at h5
        simp (disch := omega) only [fa_lit, fa_litL, nI_add, pk_mul, pk_sub, nI_clamp, gi_n, gb_0, gb_1, nI_ltI, nI_leI, nI_eq, lc_lt, lc_gt, lc_ge, lc_le, lc_eq, lN_i, nI_l, lN_add, lN_mul, lN_lt, lN_le, lN_eq, mI_eqR, mI_eqL, mI_ltL, mI_ltR, mI_leL, mI_leR, mI_add, ob1_some, ob2_some, ob3_some, ob4_some, ob5_some, ob6_some, ob7_some, ob8_some, if_true, if_false, if_pos, if_neg, Sum.elim_inl, Sum.elim_inr, un1, un2, un3, un4, un5, Nat.zero_add, Nat.add_zero, Nat.mul_one, Nat.mul_zero, Nat.sub_zero, pk_us, pk_uLs, xoq_l, xoq_r, nI_sle, S_X9_segmentOfRow_2, h5]
      · have h5 : nwa A i = A 6 := by omega
        rw [if_neg h4, h8, h5]
        simp (disch := omega) only [fa_lit, fa_litL, nI_add, pk_mul, pk_sub, nI_clamp, gi_n, gb_0, gb_1, nI_ltI, nI_leI, nI_eq, lc_lt, lc_gt, lc_ge, lc_le, lc_eq, lN_i, nI_l, lN_add, lN_mul, lN_lt, lN_le, lN_eq, mI_eqR, mI_eqL, mI_ltL, mI_ltR, mI_leL, mI_leR, mI_add, ob1_some, ob2_some, ob3_some, ob4_some, ob5_some, ob6_some, ob7_some, ob8_some, if_true, if_false, if_pos, if_neg, Sum.elim_inl, Sum.elim_inr, un1, un2, un3, un4, un5, Nat.zero_add, Nat.add_zero, Nat.mul_one, Nat.mul_zero, Nat.sub_zero, pk_us, pk_uLs, xoq_l, xoq_r, nI_sle, S_X9_segmentOfRow_2]
  unfold F_X9_segmentOfRow rI
  simp only [fa_lit]
  rw [key]
  by_cases h4 : nwa A i < A 6
  · rw [if_pos h4, if_pos h4]; rfl
  · rw [if_neg h4, if_neg h4]; rfl
theorem p_carry (hV : VA A) (h : TR A sc wc ord dur pau siz wor nam) (hK : KR A ex n tot rws_ sts drs) (h1 : A 409 = 1) {t : Nat} (ht : t < 32000) : ∃ r, F_X2_carry (nI t) n rws_ sts drs sc ord dur = some (nI r) ∧ CR A t r := by
  have hn := hV.n
  have hk0 := hV.kept
  have hsc := h.1
  obtain ⟨g1, g2, g3⟩ := hK.2 h1
  subst g1; subst hsc
  obtain ⟨i, f1, f2, f3⟩ : ∃ i, i ≤ A 410 ∧ (∀ j, j < i → ¬ (t < ksm A (j + 1) ∧ nwa A j < A 6)) ∧ ((i = A 410 ∧ wh (fun k q => S_X2_carry_2 (nI t) (nI (A 410)) rws_ sts drs (nI (A 6)) ord dur k q) wF (nI 0) = some (.inr ())) ∨ (i < A 410 ∧ t < ksm A (i + 1) ∧ nwa A i < A 6 ∧ wh (fun k q => S_X2_carry_2 (nI t) (nI (A 410)) rws_ sts drs (nI (A 6)) ord dur k q) wF (nI 0) = some (.inl (nI i, nI (nwa A i))))) := by
    refine wh_up (A 410) (by omega) (fun (j : Nat) (q : Int32) => q = nI j ∧ ∀ i, i < j → ¬ (t < ksm A (i + 1) ∧ nwa A i < A 6)) (fun (o : Option ((Int32 × Int32) ⊕ (Unit))) => ∃ i, i ≤ A 410 ∧ (∀ j, j < i → ¬ (t < ksm A (j + 1) ∧ nwa A j < A 6)) ∧ ((i = A 410 ∧ o = some (.inr ())) ∨ (i < A 410 ∧ t < ksm A (i + 1) ∧ nwa A i < A 6 ∧ o = some (.inl (nI i, nI (nwa A i)))))) (fun j q hj hI k hk => ?_) (Nat.zero_le _) ⟨rfl, fun i hi => absurd hi (Nat.not_lt_zero i)⟩
    obtain ⟨hq, e2⟩ := hI
    have hq : q = nI j := hq
    subst hq
    by_cases hlt : j < A 410
    · obtain ⟨a1, a2, a3⟩ := g3 j hlt
      have b1 := hk0.2.2 j hlt
      have b2 := ksm_b hV (j + 1) (by omega)
      have b3 := ksm_s A j
      have b4 := p_segmentOfRow hV h (i := j) b1.1
      by_cases c1 : t < ksm A (j + 1)
      · by_cases c2 : nwa A j < A 6
        · refine ⟨j, by omega, e2, Or.inr ⟨hlt, c1, c2, ?_⟩⟩
          rw [rI_l c2] at b4
          simp (disch := omega) only [fa_lit, fa_litL, nI_add, pk_mul, pk_sub, nI_clamp, gi_n, gb_0, gb_1, nI_ltI, nI_leI, nI_eq, lc_lt, lc_gt, lc_ge, lc_le, lc_eq, lN_i, nI_l, lN_add, lN_mul, lN_lt, lN_le, lN_eq, mI_eqR, mI_eqL, mI_ltL, mI_ltR, mI_leL, mI_leR, mI_add, ob1_some, ob2_some, ob3_some, ob4_some, ob5_some, ob6_some, ob7_some, ob8_some, if_true, if_false, if_pos, if_neg, Sum.elim_inl, Sum.elim_inr, un1, un2, un3, un4, un5, Nat.zero_add, Nat.add_zero, Nat.mul_one, Nat.mul_zero, Nat.sub_zero, pk_us, pk_uLs, xoq_l, xoq_r, nI_sle, S_X2_carry_2, a1, a2, a3, b4]
        · have h9 := hk hlt (nI (j + 1)) ⟨rfl, fun i hi => ?_⟩
          · rw [rI_n c2] at b4
            simp (disch := omega) only [fa_lit, fa_litL, nI_add, pk_mul, pk_sub, nI_clamp, gi_n, gb_0, gb_1, nI_ltI, nI_leI, nI_eq, lc_lt, lc_gt, lc_ge, lc_le, lc_eq, lN_i, nI_l, lN_add, lN_mul, lN_lt, lN_le, lN_eq, mI_eqR, mI_eqL, mI_ltL, mI_ltR, mI_leL, mI_leR, mI_add, ob1_some, ob2_some, ob3_some, ob4_some, ob5_some, ob6_some, ob7_some, ob8_some, if_true, if_false, if_pos, if_neg, Sum.elim_inl, Sum.elim_inr, un1, un2, un3, un4, un5, Nat.zero_add, Nat.add_zero, Nat.mul_one, Nat.mul_zero, Nat.sub_zero, pk_us, pk_uLs, xoq_l, xoq_r, nI_sle, S_X2_carry_2, a1, a2, a3, b4]
            exact h9
          · by_cases c3 : i = j
            · subst c3; exact fun c => c2 c.2
            · exact e2 i (by omega)
      · have h9 := hk hlt (nI (j + 1)) ⟨rfl, fun i hi => ?_⟩
        · simp (disch := omega) only [fa_lit, fa_litL, nI_add, pk_mul, pk_sub, nI_clamp, gi_n, gb_0, gb_1, nI_ltI, nI_leI, nI_eq, lc_lt, lc_gt, lc_ge, lc_le, lc_eq, lN_i, nI_l, lN_add, lN_mul, lN_lt, lN_le, lN_eq, mI_eqR, mI_eqL, mI_ltL, mI_ltR, mI_leL, mI_leR, mI_add, ob1_some, ob2_some, ob3_some, ob4_some, ob5_some, ob6_some, ob7_some, ob8_some, if_true, if_false, if_pos, if_neg, Sum.elim_inl, Sum.elim_inr, un1, un2, un3, un4, un5, Nat.zero_add, Nat.add_zero, Nat.mul_one, Nat.mul_zero, Nat.sub_zero, pk_us, pk_uLs, xoq_l, xoq_r, nI_sle, S_X2_carry_2, a1, a2, a3]
          exact h9
        · by_cases c3 : i = j
          · subst c3; exact fun c => c1 c.1
          · exact e2 i (by omega)
    · have h8 : j = A 410 := by omega
      subst h8
      refine ⟨A 410, Nat.le_refl _, e2, Or.inl ⟨rfl, ?_⟩⟩
      simp (disch := omega) only [fa_lit, fa_litL, nI_add, pk_mul, pk_sub, nI_clamp, gi_n, gb_0, gb_1, nI_ltI, nI_leI, nI_eq, lc_lt, lc_gt, lc_ge, lc_le, lc_eq, lN_i, nI_l, lN_add, lN_mul, lN_lt, lN_le, lN_eq, mI_eqR, mI_eqL, mI_ltL, mI_ltR, mI_leL, mI_leR, mI_add, ob1_some, ob2_some, ob3_some, ob4_some, ob5_some, ob6_some, ob7_some, ob8_some, if_true, if_false, if_pos, if_neg, Sum.elim_inl, Sum.elim_inr, un1, un2, un3, un4, un5, Nat.zero_add, Nat.add_zero, Nat.mul_one, Nat.mul_zero, Nat.sub_zero, pk_us, pk_uLs, xoq_l, xoq_r, nI_sle, S_X2_carry_2]
  unfold F_X2_carry
  simp only [fa_lit]
  rcases f3 with ⟨f3, f4⟩ | ⟨f3, f4, f5, f6⟩
  · refine ⟨sp A (A 6), ?_, i, f1, f2, Or.inl ⟨f3, rfl⟩⟩
    rw [f4]
    simp (disch := omega) only [fa_lit, fa_litL, nI_add, pk_mul, pk_sub, nI_clamp, gi_n, gb_0, gb_1, nI_ltI, nI_leI, nI_eq, lc_lt, lc_gt, lc_ge, lc_le, lc_eq, lN_i, nI_l, lN_add, lN_mul, lN_lt, lN_le, lN_eq, mI_eqR, mI_eqL, mI_ltL, mI_ltR, mI_leL, mI_leR, mI_add, ob1_some, ob2_some, ob3_some, ob4_some, ob5_some, ob6_some, ob7_some, ob8_some, if_true, if_false, if_pos, if_neg, Sum.elim_inl, Sum.elim_inr, un1, un2, un3, un4, un5, Nat.zero_add, Nat.add_zero, Nat.mul_one, Nat.mul_zero, Nat.sub_zero, pk_us, pk_uLs, xoq_l, xoq_r, nI_sle, p_startOf hV h]
  · refine ⟨sp A (nwa A i) + (if t - ksm A i < oA A (nwa A i) 0 then t - ksm A i else oA A (nwa A i) 0), ?_, i, f1, f2, Or.inr ⟨f3, f4, f5, rfl⟩⟩
    have a2 := (g3 i f3).2.1
    have b2 := ksm_b hV i (by omega)
    have b3 := hV.seg f5
    have e1 : (if nI 0 < nI t - nI (ksm A i) then nI t - nI (ksm A i) else nI 0) = nI (t - ksm A i) := by
      by_cases c : ksm A i < t
      · rw [pk_sub (by omega), if_pos (nI_lt (by omega) (by omega))]
      · have c2 : ¬ nI 0 < nI t - nI (ksm A i) := by
          rw [nI_iSub, iI_n 0, iI_lt (by omega) (by omega) (by omega) (by omega)]; omega
        rw [if_neg c2, show t - ksm A i = 0 by omega]
    rw [f6, ob1_some]
    show gi (nI i) 32 _ = _
    rw [gi_n (by omega) (by omega), nI_clamp (by omega), a2, e1, p_startOf hV h (by omega), ob1_some, p_durationOf hV h f5, ob1_some]
    by_cases c : oA A (nwa A i) 0 < t - ksm A i
    · rw [if_pos (nI_lt c (by omega)), if_neg (by omega), nI_add]
    · rw [if_neg (fun q => c ((nI_ltI (by omega) (by omega)).mp q)), nI_add]
      by_cases c2 : t - ksm A i < oA A (nwa A i) 0
      · rw [if_pos c2]
      · rw [if_neg c2, show t - ksm A i = oA A (nwa A i) 0 by omega]
theorem q_carriedOk (hV : VA A) (hM : MR A a) {t : Nat} {th : Int32} (ht : t < ksm A (A 410)) : ∃ r, F_X11_carried_b39 (nI t) (nI 0) th a = some (nI r, nI 0) ∧ CR A t r := by
  have hn := hV.n
  have hk0 := hV.kept
  have hb := ksm_b hV (A 410) (Nat.le_refl _)
  obtain ⟨i0, f1, f2, f3, f4⟩ : ∃ i0, i0 < A 410 ∧ t < ksm A (i0 + 1) ∧ ksm A i0 ≤ t ∧ wh (fun k q => S_X11_carried_55 (nI 0) a k q.1 q.2) wF (nI 0, nI t) = some (nI i0, nI (t - ksm A i0)) := by
    refine wh_up (A 410) (by omega) (fun (j : Nat) (q : Int32 × Int32) => q = (nI j, nI (t - ksm A j)) ∧ ksm A j ≤ t) (fun (o : Option ((Int32 × Int32))) => ∃ i0, i0 < A 410 ∧ t < ksm A (i0 + 1) ∧ ksm A i0 ≤ t ∧ o = some (nI i0, nI (t - ksm A i0))) (fun j q hj hI k hk => ?_) (Nat.zero_le _) ⟨rfl, Nat.zero_le _⟩
    obtain ⟨hq, e2⟩ := hI
    have hq : q = (nI j, nI (t - ksm A j)) := hq
    subst hq
    by_cases hlt : j < A 410
    · have b1 := hk0.2.2 j hlt
      have b3 := ksm_s A j
      by_cases c1 : t < ksm A (j + 1)
      · refine ⟨j, hlt, c1, e2, ?_⟩
        simp (disch := omega) only [fa_lit, fa_litL, nI_add, pk_mul, pk_sub, nI_clamp, gi_n, gb_0, gb_1, nI_ltI, nI_leI, nI_eq, lc_lt, lc_gt, lc_ge, lc_le, lc_eq, lN_i, nI_l, lN_add, lN_mul, lN_lt, lN_le, lN_eq, mI_eqR, mI_eqL, mI_ltL, mI_ltR, mI_leL, mI_leR, mI_add, ob1_some, ob2_some, ob3_some, ob4_some, ob5_some, ob6_some, ob7_some, ob8_some, if_true, if_false, if_pos, if_neg, Sum.elim_inl, Sum.elim_inr, un1, un2, un3, un4, un5, Nat.zero_add, Nat.add_zero, Nat.mul_one, Nat.mul_zero, Nat.sub_zero, pk_us, pk_uLs, xoq_l, xoq_r, nI_sle, S_X11_carried_55, hM.at]
      · have h9 := hk hlt (nI (j + 1), nI (t - ksm A (j + 1))) ⟨rfl, by omega⟩
        rw [show t - ksm A (j + 1) = t - ksm A j - A (411 + 2 * j + 1) by omega] at h9
        simp (disch := omega) only [fa_lit, fa_litL, nI_add, pk_mul, pk_sub, nI_clamp, gi_n, gb_0, gb_1, nI_ltI, nI_leI, nI_eq, lc_lt, lc_gt, lc_ge, lc_le, lc_eq, lN_i, nI_l, lN_add, lN_mul, lN_lt, lN_le, lN_eq, mI_eqR, mI_eqL, mI_ltL, mI_ltR, mI_leL, mI_leR, mI_add, ob1_some, ob2_some, ob3_some, ob4_some, ob5_some, ob6_some, ob7_some, ob8_some, if_true, if_false, if_pos, if_neg, Sum.elim_inl, Sum.elim_inr, un1, un2, un3, un4, un5, Nat.zero_add, Nat.add_zero, Nat.mul_one, Nat.mul_zero, Nat.sub_zero, pk_us, pk_uLs, xoq_l, xoq_r, nI_sle, S_X11_carried_55, hM.at]
        exact h9
    · have h8 : j = A 410 := by omega
      subst h8
      omega
  have hP : ∀ j, i0 ≤ j → t < ksm A (j + 1) := fun j hj => by
    have := ksm_mono A (s := i0 + 1) (t := j + 1) (by omega)
    omega
  have hN : ∀ j, j < i0 → ¬ t < ksm A (j + 1) := fun j hj => by
    have := ksm_mono A (s := j + 1) (t := i0) (by omega)
    omega
  have b0 := hk0.2.2 i0 f1
  have q0 := q_nowAt hV hM (i := i0) (by omega) b0.1
  unfold F_X11_carried_b39
  simp only [fa_lit]
  rw [if_pos (nI_le (Nat.le_refl 0) (by omega)), ob2_s f4, q0, ob1_some]
  by_cases c : nwa A i0 < A 6
  · have b3 := hV.seg c
    have b4 := ksm_s A i0
    have b5 := b0.2
    have hne : ¬ rI (nwa A i0) (A 6) = -nI 1 := fun q => by
      rw [rI_l c, mI_eqR (by omega)] at q; exact q
    refine ⟨sp A (nwa A i0) + (if t - ksm A i0 < oA A (nwa A i0) 0 then t - ksm A i0 else oA A (nwa A i0) 0), ?_, i0, by omega, fun j hj q => hN j hj q.1, Or.inr ⟨f1, f2, c, rfl⟩⟩
    rw [if_neg hne, rI_l c, q_spoken hV hM (by omega), ob1_some, q_of hM (by omega), ob1_some]
    by_cases c2 : t - ksm A i0 < oA A (nwa A i0) 0
    · rw [if_neg (fun q => by have := (nI_leI (by omega) (by omega)).mp q; omega), if_pos c2, nI_add]
    · rw [if_pos (nI_le (by omega) (by omega)), ob1_some, if_neg c2, nI_add]
  · rw [rI_n c, if_pos rfl]
    obtain ⟨i, g1, g2, g3, g4⟩ : ∃ i, i0 < i ∧ i ≤ A 410 ∧ (∀ j, i0 < j → j < i → ¬ nwa A j < A 6) ∧ ((i = A 410 ∧ wh (fun k q => S_X11_carried_147 (nI 0) a k q) wF (nI (i0 + 1)) = some (.inr ())) ∨ (i < A 410 ∧ nwa A i < A 6 ∧ wh (fun k q => S_X11_carried_147 (nI 0) a k q) wF (nI (i0 + 1)) = some (.inl (nI i)))) := by
      refine wh_up (A 410 - (i0 + 1)) (by omega) (fun (j : Nat) (q : Int32) => q = nI (i0 + 1 + j) ∧ ∀ i, i0 < i → i < i0 + 1 + j → ¬ nwa A i < A 6) (fun (o : Option ((Int32) ⊕ (Unit))) => ∃ i, i0 < i ∧ i ≤ A 410 ∧ (∀ j, i0 < j → j < i → ¬ nwa A j < A 6) ∧ ((i = A 410 ∧ o = some (.inr ())) ∨ (i < A 410 ∧ nwa A i < A 6 ∧ o = some (.inl (nI i))))) (fun j q hj hI k hk => ?_) (Nat.zero_le _) ⟨rfl, fun i h1 h2 => by omega⟩
      obtain ⟨hq, e2⟩ := hI
      have hq : q = nI (i0 + 1 + j) := hq
      subst hq
      by_cases hlt : j < A 410 - (i0 + 1)
      · have b1 := hk0.2.2 (i0 + 1 + j) (by omega)
        have q1 := q_nowAt hV hM (i := i0 + 1 + j) (by omega) b1.1
        by_cases c2 : nwa A (i0 + 1 + j) < A 6
        · refine ⟨i0 + 1 + j, by omega, by omega, e2, Or.inr ⟨by omega, c2, ?_⟩⟩
          rw [rI_l c2] at q1
          simp (disch := omega) only [fa_lit, fa_litL, nI_add, pk_mul, pk_sub, nI_clamp, gi_n, gb_0, gb_1, nI_ltI, nI_leI, nI_eq, lc_lt, lc_gt, lc_ge, lc_le, lc_eq, lN_i, nI_l, lN_add, lN_mul, lN_lt, lN_le, lN_eq, mI_eqR, mI_eqL, mI_ltL, mI_ltR, mI_leL, mI_leR, mI_add, ob1_some, ob2_some, ob3_some, ob4_some, ob5_some, ob6_some, ob7_some, ob8_some, if_true, if_false, if_pos, if_neg, Sum.elim_inl, Sum.elim_inr, un1, un2, un3, un4, un5, Nat.zero_add, Nat.add_zero, Nat.mul_one, Nat.mul_zero, Nat.sub_zero, pk_us, pk_uLs, xoq_l, xoq_r, nI_sle, S_X11_carried_147, hM.at, q1]
        · have h9 := hk hlt (nI (i0 + 1 + j + 1)) ⟨rfl, fun i h1 h2 => ?_⟩
          · rw [rI_n c2] at q1
            simp (disch := omega) only [fa_lit, fa_litL, nI_add, pk_mul, pk_sub, nI_clamp, gi_n, gb_0, gb_1, nI_ltI, nI_leI, nI_eq, lc_lt, lc_gt, lc_ge, lc_le, lc_eq, lN_i, nI_l, lN_add, lN_mul, lN_lt, lN_le, lN_eq, mI_eqR, mI_eqL, mI_ltL, mI_ltR, mI_leL, mI_leR, mI_add, ob1_some, ob2_some, ob3_some, ob4_some, ob5_some, ob6_some, ob7_some, ob8_some, if_true, if_false, if_pos, if_neg, Sum.elim_inl, Sum.elim_inr, un1, un2, un3, un4, un5, Nat.zero_add, Nat.add_zero, Nat.mul_one, Nat.mul_zero, Nat.sub_zero, pk_us, pk_uLs, xoq_l, xoq_r, nI_sle, S_X11_carried_147, hM.at, q1]
            exact h9
          · by_cases c3 : i = i0 + 1 + j
            · subst c3; exact c2
            · exact e2 i h1 (by omega)
      · refine ⟨A 410, by omega, Nat.le_refl _, fun i h1 h2 => e2 i h1 (by omega), Or.inl ⟨rfl, ?_⟩⟩
        rw [show i0 + 1 + j = A 410 by omega]
        simp (disch := omega) only [fa_lit, fa_litL, nI_add, pk_mul, pk_sub, nI_clamp, gi_n, gb_0, gb_1, nI_ltI, nI_leI, nI_eq, lc_lt, lc_gt, lc_ge, lc_le, lc_eq, lN_i, nI_l, lN_add, lN_mul, lN_lt, lN_le, lN_eq, mI_eqR, mI_eqL, mI_ltL, mI_ltR, mI_leL, mI_leR, mI_add, ob1_some, ob2_some, ob3_some, ob4_some, ob5_some, ob6_some, ob7_some, ob8_some, if_true, if_false, if_pos, if_neg, Sum.elim_inl, Sum.elim_inr, un1, un2, un3, un4, un5, Nat.zero_add, Nat.add_zero, Nat.mul_one, Nat.mul_zero, Nat.sub_zero, pk_us, pk_uLs, xoq_l, xoq_r, nI_sle, S_X11_carried_147, hM.at]
    have hno : ∀ j, j < i → ¬ (t < ksm A (j + 1) ∧ nwa A j < A 6) := fun j hj q => by
      rcases Nat.lt_trichotomy j i0 with h | h | h
      · exact hN j h q.1
      · subst h; exact c q.2
      · exact g3 j h hj q.2
    rw [nI_add]
    rcases g4 with ⟨g4, g5⟩ | ⟨g4, g5, g6⟩
    · refine ⟨sp A (A 6), ?_, i, g2, hno, Or.inl ⟨g4, rfl⟩⟩
      rw [g5]
      simp (disch := omega) only [fa_lit, fa_litL, nI_add, pk_mul, pk_sub, nI_clamp, gi_n, gb_0, gb_1, nI_ltI, nI_leI, nI_eq, lc_lt, lc_gt, lc_ge, lc_le, lc_eq, lN_i, nI_l, lN_add, lN_mul, lN_lt, lN_le, lN_eq, mI_eqR, mI_eqL, mI_ltL, mI_ltR, mI_leL, mI_leR, mI_add, ob1_some, ob2_some, ob3_some, ob4_some, ob5_some, ob6_some, ob7_some, ob8_some, if_true, if_false, if_pos, if_neg, Sum.elim_inl, Sum.elim_inr, un1, un2, un3, un4, un5, Nat.zero_add, Nat.add_zero, Nat.mul_one, Nat.mul_zero, Nat.sub_zero, pk_us, pk_uLs, xoq_l, xoq_r, nI_sle, q_many hM, q_spoken hV hM]
    · have b1 := hk0.2.2 i g4
      have q1 := q_nowAt hV hM (i := i) (by omega) b1.1
      rw [rI_l g5] at q1
      have b3 := hV.seg g5
      have b4 := ksm_mono A (s := i0 + 1) (t := i) (by omega)
      refine ⟨sp A (nwa A i), ?_, i, g2, hno, Or.inr ⟨g4, hP i (by omega), g5, ?_⟩⟩
      · rw [g6]
        simp (disch := omega) only [fa_lit, fa_litL, nI_add, pk_mul, pk_sub, nI_clamp, gi_n, gb_0, gb_1, nI_ltI, nI_leI, nI_eq, lc_lt, lc_gt, lc_ge, lc_le, lc_eq, lN_i, nI_l, lN_add, lN_mul, lN_lt, lN_le, lN_eq, mI_eqR, mI_eqL, mI_ltL, mI_ltR, mI_leL, mI_leR, mI_add, ob1_some, ob2_some, ob3_some, ob4_some, ob5_some, ob6_some, ob7_some, ob8_some, if_true, if_false, if_pos, if_neg, Sum.elim_inl, Sum.elim_inr, un1, un2, un3, un4, un5, Nat.zero_add, Nat.add_zero, Nat.mul_one, Nat.mul_zero, Nat.sub_zero, pk_us, pk_uLs, xoq_l, xoq_r, nI_sle, q1, q_spoken hV hM]
      · rw [show t - ksm A i = 0 by omega, if_pos (by omega), Nat.add_zero]
/-! the segment of a time, the number of a name -/
def sga (A : Nat → Nat) (x : Int32) : Int32 := if x.toInt < 0 then -nI 1 else rI (fi (fun s => decide (x.toInt < sp A (s + 1))) (A 6)) (A 6)
theorem p_segmentSpokenAt (hV : VA A) (h : TR A sc wc ord dur pau siz wor nam) (x : Int32) : F_X9_segmentSpokenAt x sc ord dur = some (sga A x) := by
  have hn := hV.n
  have hsc := h.1
  subst hsc
  unfold F_X9_segmentSpokenAt sga
  simp only [fa_lit]
  by_cases h0 : x.toInt < 0
  · rw [if_pos h0, if_neg (by rw [i32_Nle x (by omega)]; omega)]
  · obtain ⟨t, h1, h2, h3⟩ := i32_nI (x := x) (by omega)
    subst h2
    rw [if_neg h0, if_pos (nI_le (Nat.zero_le _) h1), h3]
    have hle := fi_le (fun s => decide ((t : Int) < sp A (s + 1))) (A 6)
    have hlt := fi_lt (fun s => decide ((t : Int) < sp A (s + 1))) (A 6)
    have hat := fi_at (fun s => decide ((t : Int) < sp A (s + 1))) (A 6)
    obtain ⟨m, hm⟩ : ∃ m, m = fi (fun s => decide ((t : Int) < sp A (s + 1))) (A 6) := ⟨_, rfl⟩
    rw [← hm] at hle hat ⊢
    rw [← hm] at hlt
    have key : wh (fun k q => S_X9_segmentSpokenAt_10 (nI t) (nI (A 6)) ord dur k q.1 q.2) wF (nI 0, nI 0) = some (if m < A 6 then .inl (nI m) else .inr ()) := by
      refine wh_up m (by omega) (fun (j : Nat) (q : Int32 × Int32) => q = (nI (sp A j), nI j)) (fun (o : Option ((Int32) ⊕ (Unit))) => o = some (if m < A 6 then .inl (nI m) else .inr ())) (fun j q hj hI k hk => ?_) (Nat.zero_le _) rfl
      have hI : q = (nI (sp A j), nI j) := hI
      subst hI
      by_cases g1 : j < m
      · have g2 : ¬ (t : Int) < sp A (j + 1) := by simpa using hlt j g1
        have g3 := sp_b hV (s := j + 1) (by omega)
        have g4 := sp_s A j
        have h9 := hk g1 (nI (sp A (j + 1)), nI (j + 1)) rfl
        rw [g4] at h9
        simp (disch := omega) only [fa_lit, fa_litL, nI_add, pk_mul, pk_sub, nI_clamp, gi_n, gb_0, gb_1, nI_ltI, nI_leI, nI_eq, lc_lt, lc_gt, lc_ge, lc_le, lc_eq, lN_i, nI_l, lN_add, lN_mul, lN_lt, lN_le, lN_eq, mI_eqR, mI_eqL, mI_ltL, mI_ltR, mI_leL, mI_leR, mI_add, ob1_some, ob2_some, ob3_some, ob4_some, ob5_some, ob6_some, ob7_some, ob8_some, if_true, if_false, if_pos, if_neg, Sum.elim_inl, Sum.elim_inr, un1, un2, un3, un4, un5, Nat.zero_add, Nat.add_zero, Nat.mul_one, Nat.mul_zero, Nat.sub_zero, pk_us, pk_uLs, xoq_l, xoq_r, nI_sle, S_X9_segmentSpokenAt_10, p_durationOf hV h]
        exact h9
      · have h8 : j = m := by omega
        subst h8
        by_cases g4 : j < A 6
        · have g2 : (t : Int) < sp A (j + 1) := by simpa using hat g4
          have g3 := sp_b hV (s := j + 1) (by omega)
          have g5 := sp_s A j
          rw [if_pos g4]
          simp (disch := omega) only [fa_lit, fa_litL, nI_add, pk_mul, pk_sub, nI_clamp, gi_n, gb_0, gb_1, nI_ltI, nI_leI, nI_eq, lc_lt, lc_gt, lc_ge, lc_le, lc_eq, lN_i, nI_l, lN_add, lN_mul, lN_lt, lN_le, lN_eq, mI_eqR, mI_eqL, mI_ltL, mI_ltR, mI_leL, mI_leR, mI_add, ob1_some, ob2_some, ob3_some, ob4_some, ob5_some, ob6_some, ob7_some, ob8_some, if_true, if_false, if_pos, if_neg, Sum.elim_inl, Sum.elim_inr, un1, un2, un3, un4, un5, Nat.zero_add, Nat.add_zero, Nat.mul_one, Nat.mul_zero, Nat.sub_zero, pk_us, pk_uLs, xoq_l, xoq_r, nI_sle, S_X9_segmentSpokenAt_10, p_durationOf hV h]
        · rw [if_neg g4]
          simp (disch := omega) only [fa_lit, fa_litL, nI_add, pk_mul, pk_sub, nI_clamp, gi_n, gb_0, gb_1, nI_ltI, nI_leI, nI_eq, lc_lt, lc_gt, lc_ge, lc_le, lc_eq, lN_i, nI_l, lN_add, lN_mul, lN_lt, lN_le, lN_eq, mI_eqR, mI_eqL, mI_ltL, mI_ltR, mI_leL, mI_leR, mI_add, ob1_some, ob2_some, ob3_some, ob4_some, ob5_some, ob6_some, ob7_some, ob8_some, if_true, if_false, if_pos, if_neg, Sum.elim_inl, Sum.elim_inr, un1, un2, un3, un4, un5, Nat.zero_add, Nat.add_zero, Nat.mul_one, Nat.mul_zero, Nat.sub_zero, pk_us, pk_uLs, xoq_l, xoq_r, nI_sle, S_X9_segmentSpokenAt_10]
    rw [key]
    unfold rI
    by_cases g4 : m < A 6
    · rw [if_pos g4, if_pos g4]; rfl
    · rw [if_neg g4, if_neg g4]; rfl
theorem q_segmentAt (hV : VA A) (hM : MR A a) (x th : Int32) : F_X11_segmentAt x th a = some (sga A x, nI 0) := by
  have hn := hV.n
  unfold F_X11_segmentAt sga
  simp only [fa_lit]
  by_cases h0 : x.toInt < 0
  · rw [if_pos h0]
    have key : wh (fun k q => S_X11_segmentAt_7 x (nI 0) a k q) wF (nI 0) = some (.inr ()) := by
      refine whf (fun j => nI j) 0 (A 6) rfl (by omega) (by omega) (fun j _ hj k => ?_) (fun k => ?_)
      · have g3 := sp_b hV (s := j) (by omega)
        have g4 : (x < nI (sp A j)) = True := by rw [i32_ltN x (by omega)]; exact eq_true (by omega)
        simp (disch := omega) only [fa_lit, fa_litL, nI_add, pk_mul, pk_sub, nI_clamp, gi_n, gb_0, gb_1, nI_ltI, nI_leI, nI_eq, lc_lt, lc_gt, lc_ge, lc_le, lc_eq, lN_i, nI_l, lN_add, lN_mul, lN_lt, lN_le, lN_eq, mI_eqR, mI_eqL, mI_ltL, mI_ltR, mI_leL, mI_leR, mI_add, ob1_some, ob2_some, ob3_some, ob4_some, ob5_some, ob6_some, ob7_some, ob8_some, if_true, if_false, if_pos, if_neg, Sum.elim_inl, Sum.elim_inr, un1, un2, un3, un4, un5, Nat.zero_add, Nat.add_zero, Nat.mul_one, Nat.mul_zero, Nat.sub_zero, pk_us, pk_uLs, xoq_l, xoq_r, nI_sle, S_X11_segmentAt_7, q_many hM, q_spoken hV hM, g4]
      · simp (disch := omega) only [fa_lit, fa_litL, nI_add, pk_mul, pk_sub, nI_clamp, gi_n, gb_0, gb_1, nI_ltI, nI_leI, nI_eq, lc_lt, lc_gt, lc_ge, lc_le, lc_eq, lN_i, nI_l, lN_add, lN_mul, lN_lt, lN_le, lN_eq, mI_eqR, mI_eqL, mI_ltL, mI_ltR, mI_leL, mI_leR, mI_add, ob1_some, ob2_some, ob3_some, ob4_some, ob5_some, ob6_some, ob7_some, ob8_some, if_true, if_false, if_pos, if_neg, Sum.elim_inl, Sum.elim_inr, un1, un2, un3, un4, un5, Nat.zero_add, Nat.add_zero, Nat.mul_one, Nat.mul_zero, Nat.sub_zero, pk_us, pk_uLs, xoq_l, xoq_r, nI_sle, S_X11_segmentAt_7, q_many hM]
    rw [key]; rfl
  · obtain ⟨t, h1, h2, h3⟩ := i32_nI (x := x) (by omega)
    subst h2
    rw [if_neg h0, h3]
    have hle := fi_le (fun s => decide ((t : Int) < sp A (s + 1))) (A 6)
    have hlt := fi_lt (fun s => decide ((t : Int) < sp A (s + 1))) (A 6)
    have hat := fi_at (fun s => decide ((t : Int) < sp A (s + 1))) (A 6)
    obtain ⟨m, hm⟩ : ∃ m, m = fi (fun s => decide ((t : Int) < sp A (s + 1))) (A 6) := ⟨_, rfl⟩
    rw [← hm] at hle hat ⊢
    rw [← hm] at hlt
    have key : wh (fun k q => S_X11_segmentAt_7 (nI t) (nI 0) a k q) wF (nI 0) = some (if m < A 6 then .inl (nI m) else .inr ()) := by
      refine wh_up m (by omega) (fun (j : Nat) (q : Int32) => q = nI j ∧ sp A j ≤ t) (fun (o : Option ((Int32) ⊕ (Unit))) => o = some (if m < A 6 then .inl (nI m) else .inr ())) (fun j q hj hI k hk => ?_) (Nat.zero_le _) ⟨rfl, Nat.zero_le _⟩
      obtain ⟨hI, hs⟩ := hI
      have hI : q = nI j := hI
      subst hI
      by_cases g1 : j < m
      · have g2 : ¬ (t : Int) < sp A (j + 1) := by simpa using hlt j g1
        have g3 := sp_b hV (s := j + 1) (by omega)
        have g5 := sp_b hV (s := j) (by omega)
        have h9 := hk g1 (nI (j + 1)) ⟨rfl, by omega⟩
        simp (disch := omega) only [fa_lit, fa_litL, nI_add, pk_mul, pk_sub, nI_clamp, gi_n, gb_0, gb_1, nI_ltI, nI_leI, nI_eq, lc_lt, lc_gt, lc_ge, lc_le, lc_eq, lN_i, nI_l, lN_add, lN_mul, lN_lt, lN_le, lN_eq, mI_eqR, mI_eqL, mI_ltL, mI_ltR, mI_leL, mI_leR, mI_add, ob1_some, ob2_some, ob3_some, ob4_some, ob5_some, ob6_some, ob7_some, ob8_some, if_true, if_false, if_pos, if_neg, Sum.elim_inl, Sum.elim_inr, un1, un2, un3, un4, un5, Nat.zero_add, Nat.add_zero, Nat.mul_one, Nat.mul_zero, Nat.sub_zero, pk_us, pk_uLs, xoq_l, xoq_r, nI_sle, S_X11_segmentAt_7, q_many hM, q_spoken hV hM]
        exact h9
      · have h8 : j = m := by omega
        subst h8
        by_cases g4 : j < A 6
        · have g2 : (t : Int) < sp A (j + 1) := by simpa using hat g4
          have g3 := sp_b hV (s := j + 1) (by omega)
          have g5 := sp_b hV (s := j) (by omega)
          rw [if_pos g4]
          simp (disch := omega) only [fa_lit, fa_litL, nI_add, pk_mul, pk_sub, nI_clamp, gi_n, gb_0, gb_1, nI_ltI, nI_leI, nI_eq, lc_lt, lc_gt, lc_ge, lc_le, lc_eq, lN_i, nI_l, lN_add, lN_mul, lN_lt, lN_le, lN_eq, mI_eqR, mI_eqL, mI_ltL, mI_ltR, mI_leL, mI_leR, mI_add, ob1_some, ob2_some, ob3_some, ob4_some, ob5_some, ob6_some, ob7_some, ob8_some, if_true, if_false, if_pos, if_neg, Sum.elim_inl, Sum.elim_inr, un1, un2, un3, un4, un5, Nat.zero_add, Nat.add_zero, Nat.mul_one, Nat.mul_zero, Nat.sub_zero, pk_us, pk_uLs, xoq_l, xoq_r, nI_sle, S_X11_segmentAt_7, q_many hM, q_spoken hV hM]
        · rw [if_neg g4]
          simp (disch := omega) only [fa_lit, fa_litL, nI_add, pk_mul, pk_sub, nI_clamp, gi_n, gb_0, gb_1, nI_ltI, nI_leI, nI_eq, lc_lt, lc_gt, lc_ge, lc_le, lc_eq, lN_i, nI_l, lN_add, lN_mul, lN_lt, lN_le, lN_eq, mI_eqR, mI_eqL, mI_ltL, mI_ltR, mI_leL, mI_leR, mI_add, ob1_some, ob2_some, ob3_some, ob4_some, ob5_some, ob6_some, ob7_some, ob8_some, if_true, if_false, if_pos, if_neg, Sum.elim_inl, Sum.elim_inr, un1, un2, un3, un4, un5, Nat.zero_add, Nat.add_zero, Nat.mul_one, Nat.mul_zero, Nat.sub_zero, pk_us, pk_uLs, xoq_l, xoq_r, nI_sle, S_X11_segmentAt_7, q_many hM]
    rw [key]
    unfold rI
    by_cases g4 : m < A 6
    · rw [if_pos g4, if_pos g4]; rfl
    · rw [if_neg g4, if_neg g4]; rfl
noncomputable section
def nmo (A : Nat → Nat) (x : Int64) : Nat := fi (fun w => decide (lN (A (475 + w)) = x)) (A 7)
end
theorem p_numberOf (hnw : A 7 ≤ 24) (h2 : wc = nI (A 7)) (h3 : ∀ w, w < A 7 → nam w = lN (A (475 + w))) (x : Int64) : F_X9_numberOf x wc nam = some (rI (nmo A x) (A 7)) := by
  subst h2
  have hle : nmo A x ≤ A 7 := fi_le _ _
  have hlt := fi_lt (fun w => decide (lN (A (475 + w)) = x)) (A 7)
  have hat := fi_at (fun w => decide (lN (A (475 + w)) = x)) (A 7)
  have key : wh (fun k q => S_X9_numberOf_2 x (nI (A 7)) nam k q) wF (nI 0) = some (if nmo A x < A 7 then .inl (nI (nmo A x)) else .inr ()) := by
    refine wh_up (nmo A x) (by omega) (fun (j : Nat) (q : Int32) => q = nI j) (fun (o : Option ((Int32) ⊕ (Unit))) => o = some (if nmo A x < A 7 then .inl (nI (nmo A x)) else .inr ())) (fun j q hj hI k hk => ?_) (Nat.zero_le _) rfl
    have hI : q = nI j := hI
    subst hI
    by_cases g1 : j < nmo A x
    · have g2 : (lN (A (475 + j)) = x) = False := eq_false (by simpa using hlt j g1)
      have g3 := h3 j (by omega)
      have h9 := hk g1 (nI (j + 1)) rfl
      simp (disch := omega) only [fa_lit, fa_litL, nI_add, pk_mul, pk_sub, nI_clamp, gi_n, gb_0, gb_1, nI_ltI, nI_leI, nI_eq, lc_lt, lc_gt, lc_ge, lc_le, lc_eq, lN_i, nI_l, lN_add, lN_mul, lN_lt, lN_le, lN_eq, mI_eqR, mI_eqL, mI_ltL, mI_ltR, mI_leL, mI_leR, mI_add, ob1_some, ob2_some, ob3_some, ob4_some, ob5_some, ob6_some, ob7_some, ob8_some, if_true, if_false, if_pos, if_neg, Sum.elim_inl, Sum.elim_inr, un1, un2, un3, un4, un5, Nat.zero_add, Nat.add_zero, Nat.mul_one, Nat.mul_zero, Nat.sub_zero, pk_us, pk_uLs, xoq_l, xoq_r, nI_sle, S_X9_numberOf_2, g3, g2]
      exact h9
    · have h8 : j = nmo A x := by omega
      subst h8
      by_cases g4 : nmo A x < A 7
      · have g2 : lN (A (475 + nmo A x)) = x := by simpa [nmo] using hat g4
        have g3 := h3 _ g4
        rw [if_pos g4]
        simp (disch := omega) only [fa_lit, fa_litL, nI_add, pk_mul, pk_sub, nI_clamp, gi_n, gb_0, gb_1, nI_ltI, nI_leI, nI_eq, lc_lt, lc_gt, lc_ge, lc_le, lc_eq, lN_i, nI_l, lN_add, lN_mul, lN_lt, lN_le, lN_eq, mI_eqR, mI_eqL, mI_ltL, mI_ltR, mI_leL, mI_leR, mI_add, ob1_some, ob2_some, ob3_some, ob4_some, ob5_some, ob6_some, ob7_some, ob8_some, if_true, if_false, if_pos, if_neg, Sum.elim_inl, Sum.elim_inr, un1, un2, un3, un4, un5, Nat.zero_add, Nat.add_zero, Nat.mul_one, Nat.mul_zero, Nat.sub_zero, pk_us, pk_uLs, xoq_l, xoq_r, nI_sle, S_X9_numberOf_2, g3, g2]
      · rw [if_neg g4]
        simp (disch := omega) only [fa_lit, fa_litL, nI_add, pk_mul, pk_sub, nI_clamp, gi_n, gb_0, gb_1, nI_ltI, nI_leI, nI_eq, lc_lt, lc_gt, lc_ge, lc_le, lc_eq, lN_i, nI_l, lN_add, lN_mul, lN_lt, lN_le, lN_eq, mI_eqR, mI_eqL, mI_ltL, mI_ltR, mI_leL, mI_leR, mI_add, ob1_some, ob2_some, ob3_some, ob4_some, ob5_some, ob6_some, ob7_some, ob8_some, if_true, if_false, if_pos, if_neg, Sum.elim_inl, Sum.elim_inr, un1, un2, un3, un4, un5, Nat.zero_add, Nat.add_zero, Nat.mul_one, Nat.mul_zero, Nat.sub_zero, pk_us, pk_uLs, xoq_l, xoq_r, nI_sle, S_X9_numberOf_2]
  unfold F_X9_numberOf rI
  simp only [fa_lit]
  rw [key]
  by_cases g4 : nmo A x < A 7
  · rw [if_pos g4, if_pos g4]; rfl
  · rw [if_neg g4, if_neg g4]; rfl
theorem q_find (hV : VA A) (hM : MR A a) (x : Int64) (th : Int32) : F_X11_find x th a = some (rI (nmo A x) (A 7), nI 0) := by
  have hnw := hV.nw
  have hle : nmo A x ≤ A 7 := fi_le _ _
  have hlt := fi_lt (fun w => decide (lN (A (475 + w)) = x)) (A 7)
  have hat := fi_at (fun w => decide (lN (A (475 + w)) = x)) (A 7)
  have key : wh (fun k q => S_X11_find_7 x (nI 0) a k q) wF (nI 0) = some (if nmo A x < A 7 then .inl (nI (nmo A x)) else .inr ()) := by
    refine wh_up (nmo A x) (by omega) (fun (j : Nat) (q : Int32) => q = nI j) (fun (o : Option ((Int32) ⊕ (Unit))) => o = some (if nmo A x < A 7 then .inl (nI (nmo A x)) else .inr ())) (fun j q hj hI k hk => ?_) (Nat.zero_le _) rfl
    have hI : q = nI j := hI
    subst hI
    by_cases g1 : j < nmo A x
    · have g2 : (lN (A (475 + j)) = x) = False := eq_false (by simpa using hlt j g1)
      have h9 := hk g1 (nI (j + 1)) rfl
      simp (disch := omega) only [fa_lit, fa_litL, nI_add, pk_mul, pk_sub, nI_clamp, gi_n, gb_0, gb_1, nI_ltI, nI_leI, nI_eq, lc_lt, lc_gt, lc_ge, lc_le, lc_eq, lN_i, nI_l, lN_add, lN_mul, lN_lt, lN_le, lN_eq, mI_eqR, mI_eqL, mI_ltL, mI_ltR, mI_leL, mI_leR, mI_add, ob1_some, ob2_some, ob3_some, ob4_some, ob5_some, ob6_some, ob7_some, ob8_some, if_true, if_false, if_pos, if_neg, Sum.elim_inl, Sum.elim_inr, un1, un2, un3, un4, un5, Nat.zero_add, Nat.add_zero, Nat.mul_one, Nat.mul_zero, Nat.sub_zero, pk_us, pk_uLs, xoq_l, xoq_r, nI_sle, S_X11_find_7, hM.at, g2]
      exact h9
    · have h8 : j = nmo A x := by omega
      subst h8
      by_cases g4 : nmo A x < A 7
      · have g2 : lN (A (475 + nmo A x)) = x := by simpa [nmo] using hat g4
        rw [if_pos g4]
        simp (disch := omega) only [fa_lit, fa_litL, nI_add, pk_mul, pk_sub, nI_clamp, gi_n, gb_0, gb_1, nI_ltI, nI_leI, nI_eq, lc_lt, lc_gt, lc_ge, lc_le, lc_eq, lN_i, nI_l, lN_add, lN_mul, lN_lt, lN_le, lN_eq, mI_eqR, mI_eqL, mI_ltL, mI_ltR, mI_leL, mI_leR, mI_add, ob1_some, ob2_some, ob3_some, ob4_some, ob5_some, ob6_some, ob7_some, ob8_some, if_true, if_false, if_pos, if_neg, Sum.elim_inl, Sum.elim_inr, un1, un2, un3, un4, un5, Nat.zero_add, Nat.add_zero, Nat.mul_one, Nat.mul_zero, Nat.sub_zero, pk_us, pk_uLs, xoq_l, xoq_r, nI_sle, S_X11_find_7, hM.at, g2]
      · rw [if_neg g4]
        simp (disch := omega) only [fa_lit, fa_litL, nI_add, pk_mul, pk_sub, nI_clamp, gi_n, gb_0, gb_1, nI_ltI, nI_leI, nI_eq, lc_lt, lc_gt, lc_ge, lc_le, lc_eq, lN_i, nI_l, lN_add, lN_mul, lN_lt, lN_le, lN_eq, mI_eqR, mI_eqL, mI_ltL, mI_ltR, mI_leL, mI_leR, mI_add, ob1_some, ob2_some, ob3_some, ob4_some, ob5_some, ob6_some, ob7_some, ob8_some, if_true, if_false, if_pos, if_neg, Sum.elim_inl, Sum.elim_inr, un1, un2, un3, un4, un5, Nat.zero_add, Nat.add_zero, Nat.mul_one, Nat.mul_zero, Nat.sub_zero, pk_us, pk_uLs, xoq_l, xoq_r, nI_sle, S_X11_find_7, hM.at]
  unfold F_X11_find rI
  simp only [fa_lit]
  rw [key]
  by_cases g4 : nmo A x < A 7
  · rw [if_pos g4, if_pos g4]; rfl
  · rw [if_neg g4, if_neg g4]; rfl
end
