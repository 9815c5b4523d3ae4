/-! ===== edits of a show: settings, segments' fields ===== -/
def uA (A : Nat → Nat) (k v : Nat) : Nat → Nat := fun j => if j = k then v else A j
theorem uA_s {A : Nat → Nat} {k v : Nat} : uA A k v k = v := if_pos rfl
theorem uA_n {A : Nat → Nat} {k v j : Nat} (h : j ≠ k) : uA A k v j = A j := if_neg h
theorem TR.congr {A B : Nat → Nat} {sc wc : Int32} {ord dur pau siz wor : Nat → Int32} {nam : Nat → Int64} (hV : VA A) (h6 : B 6 = A 6) (h7 : B 7 = A 7) (h1 : ∀ j, 10 ≤ j → j < 394 → B j = A j) (h2 : ∀ j, 475 ≤ j → j < 499 → B j = A j) (h : TR A sc wc ord dur pau siz wor nam) : TR B sc wc ord dur pau siz wor nam := by
  have hn := hV.n
  have hnw := hV.nw
  have ho : ∀ s w, s < A 6 → w < 12 → oA B s w = oA A s w := fun s w hs hw => h1 _ (by omega) (by omega)
  unfold TR
  rw [h6, h7]
  refine ⟨h.1, h.2.1, fun s hs => ?_, fun w hw => ?_⟩
  · have h3 := h.2.2.1 s hs
    have h4 := hV.seg hs
    rw [ho s 11 hs (by omega), ho s 0 hs (by omega), ho s 1 hs (by omega), ho s 2 hs (by omega)]
    refine ⟨h3.1, h3.2.1, h3.2.2.1, h3.2.2.2.1, fun k hk => ?_⟩
    rw [ho s (3 + k) hs (by omega)]
    exact h3.2.2.2.2 k hk
  · rw [h2 _ (by omega) (by omega)]
    exact h.2.2.2 w hw
theorem QR.congr {A B : Nat → Nat} {n : Int32} {wi le re : Nat → Int32} (hV : VA A) (h8 : B 8 = A 8) (h1 : ∀ j, 394 ≤ j → j < 409 → B j = A j) (h : QR A n wi le re) : QR B n wi le re := by
  have hl := hV.nl
  unfold QR
  rw [h8]
  refine ⟨h.1, fun i hi => ?_⟩
  rw [h1 _ (by omega) (by omega), h1 _ (by omega) (by omega), h1 _ (by omega) (by omega)]
  exact h.2 i hi
theorem ksm_congr {A B : Nat → Nat} (h1 : ∀ j, 409 ≤ j → j < 475 → B j = A j) : ∀ s, s ≤ 32 → ksm B s = ksm A s := by
  intro s
  induction s with
  | zero => intro _; rfl
  | succ s ih => intro hs; rw [ksm_s, ksm_s, ih (by omega), h1 _ (by omega) (by omega)]
theorem KR.congr {A B : Nat → Nat} {ex n tot : Int32} {rws sts drs : Nat → Int32} (hV : VA A) (h1 : ∀ j, 409 ≤ j → j < 475 → B j = A j) (h : KR A ex n tot rws sts drs) : KR B ex n tot rws sts drs := by
  have hk := hV.kept
  have h2 := h1 409 (by omega) (by omega)
  have h3 := h1 410 (by omega) (by omega)
  unfold KR
  rw [h2, h3]
  refine ⟨h.1, fun h4 => ?_⟩
  have h5 := h.2 h4
  rw [ksm_congr h1 _ hk.2.1]
  refine ⟨h5.1, h5.2.1, fun s hs => ?_⟩
  rw [h1 _ (by omega) (by omega), h1 _ (by omega) (by omega), ksm_congr h1 _ (by omega)]
  exact h5.2.2 s hs
theorem SR.congr {A B : Nat → Nat} {set : Nat → Int32} (h1 : ∀ j, j < 6 → B j = A j) (h : SR A set) : SR B set := fun k hk => by rw [h1 k hk]; exact h k hk
/-- the bounds of a setting -/
def slo (k : Nat) : Nat := if k < 3 then 1 else 0
def shi (k : Nat) : Nat := if k = 2 then 5 else if k = 3 then 100 else if k = 4 then 99 else 9999
theorem VA.congr {A B : Nat → Nat} (hV : VA A) (h0 : ∀ k, k < 6 → slo k ≤ B k ∧ B k ≤ shi k) (h1 : ∀ j, 6 ≤ j → B j = A j) : VA B := by
  obtain ⟨⟨-, -, -, -, -, -, h7, h8, h9⟩, ⟨i1, i2, i3⟩, ⟨j1, j2⟩, ⟨k1, k2, k3⟩, l1⟩ := hV
  have ho : ∀ s w, oA B s w = oA A s w := fun s w => h1 _ (by omega)
  have e0 := h0 0 (by omega)
  have e1 := h0 1 (by omega)
  have e2 := h0 2 (by omega)
  have e3 := h0 3 (by omega)
  have e4 := h0 4 (by omega)
  have e5 := h0 5 (by omega)
  have f6 := h1 6 (by omega)
  have f7 := h1 7 (by omega)
  have f8 := h1 8 (by omega)
  unfold VA
  rw [f6, f7, f8, h1 409 (by omega), h1 410 (by omega)]
  simp only [ho]
  refine ⟨⟨e0, e1, e2, e3.2, e4.2, e5.2, h7, h8, h9⟩, ⟨i1, i2, i3⟩, ⟨fun i hi => ?_, fun i j hij hj => ?_⟩, ⟨k1, k2, fun s hs => ?_⟩, fun w hw => ?_⟩
  · rw [h1 _ (by omega), h1 _ (by omega), h1 _ (by omega)]; exact j1 i hi
  · rw [h1 _ (by omega), h1 _ (by omega)]; exact j2 i j hij hj
  · rw [h1 _ (by omega), h1 _ (by omega)]; exact k3 s hs
  · rw [h1 _ (by omega)]; exact l1 w hw
theorem MR.u {A : Nat → Nat} {a : Nat → Int64} {k v : Nat} (h : MR A a) : MR (uA A k v) (vp_updL a k (lN v)) := by
  intro j hj
  by_cases h1 : j = k
  · subst h1; rw [pk_uLs, uA_s]
  · rw [pk_uLn h1, uA_n h1]; exact h j hj
theorem set_SHr {A : Nat → Nat} (hV : VA A) {k v : Nat} (hk : k < 6) (hv : slo k ≤ v ∧ v ≤ shi k) : VA (uA A k v) := by
  refine hV.congr (fun j hj => ?_) (fun j hj => uA_n (by omega))
  by_cases h : j = k
  · subst h; rw [uA_s]; exact hv
  · rw [uA_n h]
    have e0 := hV.s0
    have e1 := hV.s1
    have e2 := hV.s2
    have e3 := hV.s3
    have e4 := hV.s4
    have e5 := hV.s5
    unfold slo shi
    rcases (show j = 0 ∨ j = 1 ∨ j = 2 ∨ j = 3 ∨ j = 4 ∨ j = 5 by omega) with h | h | h | h | h | h <;> subst h <;> simp <;> omega
theorem set_SR {A : Nat → Nat} {set : Nat → Int32} {k v : Nat} (h : SR A set) : SR (uA A k v) (upd set k (nI v)) := fun j hj => by
  by_cases h1 : j = k
  · subst h1; rw [pk_us, uA_s]
  · rw [pk_un h1, uA_n h1]; exact h j hj
/-! a field of a segment -/
theorem oA_u {A : Nat → Nat} {s w v : Nat} {t x : Nat} (hw : w < 12) (hx : x < 12) : oA (uA A (10 + 12 * s + w) v) t x = if t = s ∧ x = w then v else oA A t x := by
  unfold oA
  by_cases h : t = s ∧ x = w
  · rw [if_pos h, h.1, h.2, uA_s]
  · rw [if_neg h, uA_n (by omega)]
theorem seg_VA {A : Nat → Nat} (hV : VA A) {s w v : Nat} (hs : s < A 6) (hw : w < 11) (h0 : w = 0 → 1 ≤ v ∧ v ≤ 999) (h1 : w = 1 → v ≤ 99) (h2 : w = 2 → 1 ≤ v ∧ v ≤ 8 ∧ ∀ k, k < v → oA A s (3 + k) < A 7) (h3 : 3 ≤ w → v < A 7) : VA (uA A (10 + 12 * s + w) v) := by
  have hn := hV.n
  have hnw := hV.nw
  have hl := hV.nl
  obtain ⟨c1, ⟨i1, i2, i3⟩, ⟨j1, j2⟩, ⟨k1, k2, k3⟩, l1⟩ := hV
  have e : ∀ j, j < 10 ∨ 394 ≤ j → uA A (10 + 12 * s + w) v j = A j := fun j hj => uA_n (by omega)
  unfold VA
  rw [e 0 (by omega), e 1 (by omega), e 2 (by omega), e 3 (by omega), e 4 (by omega), e 5 (by omega), e 6 (by omega), e 7 (by omega), e 8 (by omega), e 409 (by omega), e 410 (by omega)]
  refine ⟨c1, ⟨fun t ht => ?_, fun t ht k hk => ?_, fun t u ht hu hh => ?_⟩, ⟨fun i hi => ?_, fun i j hij hj => ?_⟩, ⟨k1, k2, fun s hs => ?_⟩, fun w hw => ?_⟩
  · have b := i1 t ht
    rw [oA_u (by omega) (by omega), oA_u (by omega) (by omega), oA_u (by omega) (by omega), oA_u (by omega) (by omega)]
    rcases (show w = 0 ∨ w = 1 ∨ w = 2 ∨ 3 ≤ w by omega) with q | q | q | q
    · have q1 := h0 q
      subst q
      by_cases q2 : t = s
      · subst q2; simp; omega
      · simp [q2]; omega
    · have q1 := h1 q
      subst q
      by_cases q2 : t = s
      · subst q2; simp; omega
      · simp [q2]; omega
    · have q1 := h2 q
      subst q
      by_cases q2 : t = s
      · subst q2; simp; omega
      · simp [q2]; omega
    · rw [if_neg (by omega), if_neg (by omega), if_neg (by omega), if_neg (by omega)]; exact b
  · have b := i1 t ht
    rw [oA_u (by omega) (by omega)] at hk
    by_cases q : w = 2
    · subst q
      have q1 := h2 rfl
      by_cases q2 : t = s
      · subst q2
        rw [if_pos ⟨rfl, rfl⟩] at hk
        rw [oA_u (by omega) (by omega), if_neg (by omega)]
        exact q1.2.2 k hk
      · rw [if_neg (by omega)] at hk
        rw [oA_u (by omega) (by omega), if_neg (by omega)]
        exact i2 t ht k hk
    · rw [if_neg (by omega)] at hk
      rw [oA_u (by omega) (by omega)]
      by_cases q2 : t = s ∧ 3 + k = w
      · rw [if_pos q2]; exact h3 (by omega)
      · rw [if_neg q2]; exact i2 t ht k hk
  · rw [oA_u (by omega) (by omega), oA_u (by omega) (by omega), if_neg (by omega), if_neg (by omega)] at hh
    exact i3 t u ht hu hh
  · rw [e _ (by omega), e _ (by omega), e _ (by omega)]; exact j1 i hi
  · rw [e _ (by omega), e _ (by omega)]; exact j2 i j hij hj
  · rw [e _ (by omega), e _ (by omega)]; exact k3 s hs
  · rw [e _ (by omega)]; exact l1 w hw
section
variable {A : Nat → Nat} {sc wc : Int32} {ord dur pau siz wor : Nat → Int32} {nam : Nat → Int64}
theorem dur_TR (hV : VA A) (h : TR A sc wc ord dur pau siz wor nam) {s v : Nat} (hs : s < A 6) : TR (uA A (10 + 12 * s + 0) v) sc wc ord (upd dur (oA A s 11) (nI v)) pau siz wor nam := by
  have hn := hV.n
  have hnw := hV.nw
  have e : ∀ j, j < 10 ∨ 394 ≤ j → uA A (10 + 12 * s + 0) v j = A j := fun j hj => uA_n (by omega)
  unfold TR
  rw [e 6 (by omega), e 7 (by omega)]
  refine ⟨h.1, h.2.1, fun t ht => ?_, fun w hw => ?_⟩
  · have h1 := h.2.2.1 t ht
    have h2 := hV.seg ht
    rw [oA_u (by omega) (by omega), oA_u (by omega) (by omega), oA_u (by omega) (by omega), oA_u (by omega) (by omega), if_neg (show ¬ (t = s ∧ 11 = 0) by omega), if_neg (show ¬ (t = s ∧ 1 = 0) by omega), if_neg (show ¬ (t = s ∧ 2 = 0) by omega)]
    refine ⟨h1.1, ?_, h1.2.2.1, h1.2.2.2.1, fun k hk => ?_⟩
    · by_cases q : t = s
      · subst q; rw [pk_us, if_pos ⟨rfl, rfl⟩]
      · rw [pk_un (fun q2 => q (hV.inj ht hs q2)), if_neg (by omega)]; exact h1.2.1
    · rw [oA_u (by omega) (by omega), if_neg (by omega)]; exact h1.2.2.2.2 k hk
  · rw [e _ (by omega)]; exact h.2.2.2 w hw
theorem pau_TR (hV : VA A) (h : TR A sc wc ord dur pau siz wor nam) {s v : Nat} (hs : s < A 6) : TR (uA A (10 + 12 * s + 1) v) sc wc ord dur (upd pau (oA A s 11) (nI v)) siz wor nam := by
  have hn := hV.n
  have hnw := hV.nw
  have e : ∀ j, j < 10 ∨ 394 ≤ j → uA A (10 + 12 * s + 1) v j = A j := fun j hj => uA_n (by omega)
  unfold TR
  rw [e 6 (by omega), e 7 (by omega)]
  refine ⟨h.1, h.2.1, fun t ht => ?_, fun w hw => ?_⟩
  · have h1 := h.2.2.1 t ht
    have h2 := hV.seg ht
    rw [oA_u (by omega) (by omega), oA_u (by omega) (by omega), oA_u (by omega) (by omega), oA_u (by omega) (by omega), if_neg (show ¬ (t = s ∧ 11 = 1) by omega), if_neg (show ¬ (t = s ∧ 0 = 1) by omega), if_neg (show ¬ (t = s ∧ 2 = 1) by omega)]
    refine ⟨h1.1, h1.2.1, ?_, h1.2.2.2.1, fun k hk => ?_⟩
    · by_cases q : t = s
      · subst q; rw [pk_us, if_pos ⟨rfl, rfl⟩]
      · rw [pk_un (fun q2 => q (hV.inj ht hs q2)), if_neg (by omega)]; exact h1.2.2.1
    · rw [oA_u (by omega) (by omega), if_neg (by omega)]; exact h1.2.2.2.2 k hk
  · rw [e _ (by omega)]; exact h.2.2.2 w hw
/-- a word more in a segment -/
def awA (A : Nat → Nat) (s v : Nat) : Nat → Nat := uA (uA A (10 + 12 * s + (3 + oA A s 2)) v) (10 + 12 * s + 2) (oA A s 2 + 1)
theorem aw_VA (hV : VA A) {s v : Nat} (hs : s < A 6) (hz : oA A s 2 < 8) (hv : v < A 7) : VA (awA A s v) := by
  have h1 := hV.seg hs
  have h2 := seg_VA hV (s := s) (w := 3 + oA A s 2) (v := v) hs (by omega) (fun h => by omega) (fun h => by omega) (fun h => by omega) (fun _ => hv)
  have e6 : uA A (10 + 12 * s + (3 + oA A s 2)) v 6 = A 6 := uA_n (by omega)
  have e7 : uA A (10 + 12 * s + (3 + oA A s 2)) v 7 = A 7 := uA_n (by omega)
  refine seg_VA h2 (by rw [e6]; exact hs) (by omega) (fun h => by omega) (fun h => by omega) (fun _ => ⟨by omega, by omega, fun k hk => ?_⟩) (fun h => by omega)
  rw [e7, oA_u (by omega) (by omega)]
  by_cases q : k = oA A s 2
  · rw [if_pos ⟨rfl, by omega⟩]; exact hv
  · rw [if_neg (by omega)]; exact hV.wd hs (by omega)
theorem aw_TR (hV : VA A) (h : TR A sc wc ord dur pau siz wor nam) {s v : Nat} (hs : s < A 6) (hz : oA A s 2 < 8) : TR (awA A s v) sc wc ord dur pau (upd siz (oA A s 11) (nI (oA A s 2 + 1))) (upd wor (oA A s 11 * 8 + oA A s 2) (nI v)) nam := by
  have hn := hV.n
  have hnw := hV.nw
  have h0 := hV.seg hs
  have e : ∀ j, j < 10 ∨ 394 ≤ j → awA A s v j = A j := fun j hj => by unfold awA; rw [uA_n (by omega), uA_n (by omega)]
  have ho : ∀ t x, x < 12 → oA (awA A s v) t x = if t = s ∧ x = 2 then oA A s 2 + 1 else if t = s ∧ x = 3 + oA A s 2 then v else oA A t x := fun t x hx => by
    unfold awA
    rw [oA_u (by omega) hx, oA_u (by omega) hx]
  unfold TR
  rw [e 6 (by omega), e 7 (by omega)]
  refine ⟨h.1, h.2.1, fun t ht => ?_, fun w hw => ?_⟩
  · have h1 := h.2.2.1 t ht
    have h2 := hV.seg ht
    rw [ho t 11 (by omega), ho t 0 (by omega), ho t 1 (by omega), if_neg (show ¬ (t = s ∧ 11 = 2) by omega), if_neg (show ¬ (t = s ∧ 0 = 2) by omega), if_neg (show ¬ (t = s ∧ 1 = 2) by omega), if_neg (show ¬ (t = s ∧ 11 = 3 + oA A s 2) by omega), if_neg (show ¬ (t = s ∧ 0 = 3 + oA A s 2) by omega), if_neg (show ¬ (t = s ∧ 1 = 3 + oA A s 2) by omega)]
    refine ⟨h1.1, h1.2.1, h1.2.2.1, ?_, fun k hk => ?_⟩
    · rw [ho t 2 (by omega)]
      by_cases q : t = s
      · subst q; rw [pk_us, if_pos ⟨rfl, rfl⟩]
      · rw [pk_un (fun q2 => q (hV.inj ht hs q2)), if_neg (by omega), if_neg (by omega)]; exact h1.2.2.2.1
    · rw [ho t 2 (by omega)] at hk
      by_cases q : t = s
      · subst q
        rw [if_pos ⟨rfl, rfl⟩] at hk
        rw [ho t (3 + k) (by omega), if_neg (by omega)]
        by_cases q3 : k = oA A t 2
        · subst q3; rw [pk_us, if_pos ⟨rfl, rfl⟩]
        · rw [pk_un (by omega), if_neg (by omega)]; exact h1.2.2.2.2 k (by omega)
      · rw [if_neg (by omega), if_neg (by omega)] at hk
        have q2 : oA A t 11 ≠ oA A s 11 := fun q2 => q (hV.inj ht hs q2)
        rw [ho t (3 + k) (by omega), if_neg (by omega), if_neg (by omega), pk_un (by omega)]
        exact h1.2.2.2.2 k hk
  · rw [e _ (by omega)]; exact h.2.2.2 w hw
end
