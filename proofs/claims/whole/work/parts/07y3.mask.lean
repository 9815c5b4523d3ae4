/-! ===== a callee's cells among its caller's, in the caller's order, by a mask ===== -/
def gq_mg : List Bool → va_W → va_W → va_W
  | [], Y, _ => Y
  | true :: m, y :: Y, Z => y :: gq_mg m Y Z
  | true :: m, [], Z => gq_mg m [] Z
  | false :: m, Y, z :: Z => z :: gq_mg m Y Z
  | false :: m, Y, [] => gq_mg m Y []
def gq_ps : List Bool → Nat → Nat
  | [], t => t
  | true :: _, 0 => 0
  | true :: m, t + 1 => gq_ps m t + 1
  | false :: m, t => gq_ps m t + 1
def gq_nf : List Bool → Nat
  | [] => 0
  | true :: m => gq_nf m
  | false :: m => gq_nf m + 1
theorem gq_ps_in : ∀ (m : List Bool) (Y Z : va_W) (t : Nat) (q : Nat × va_E), gq_nf m = Z.length → Y[t]? = some q → (gq_mg m Y Z)[gq_ps m t]? = some q := by
  intro m
  induction m with
  | nil => intro Y Z t q _ h; exact h
  | cons b m ih =>
    intro Y Z t q hz h
    cases b with
    | true =>
      cases Y with
      | nil => simp at h
      | cons y Y =>
        cases t with
        | zero => simpa [gq_mg, gq_ps] using h
        | succ t => simpa [gq_mg, gq_ps] using ih Y Z t q hz (by simpa using h)
    | false =>
      cases Z with
      | nil => simp [gq_nf] at hz
      | cons z Z => simpa [gq_mg, gq_ps] using ih Y Z t q (by simpa [gq_nf] using hz) h
theorem gq_ps_inj : ∀ (m : List Bool) (i j : Nat), gq_ps m i = gq_ps m j → i = j := by
  intro m
  induction m with
  | nil => intro i j h; exact h
  | cons b m ih =>
    intro i j h
    cases b with
    | true =>
      cases i with
      | zero => cases j with
        | zero => rfl
        | succ j => simp [gq_ps] at h
      | succ i => cases j with
        | zero => simp [gq_ps] at h
        | succ j => simp only [gq_ps, Nat.succ.injEq, Nat.add_right_cancel_iff] at h; rw [ih i j h]
    | false => simp only [gq_ps, Nat.add_right_cancel_iff] at h; exact ih i j h
theorem gq_mg_at : ∀ (m : List Bool) (Y Y' Z : va_W) (j : Nat) (q : Nat × va_E), gq_nf m = Z.length → Y'.length = Y.length → (gq_mg m Y' Z)[j]? = some q → (∃ t : Nat, gq_ps m t = j ∧ Y'[t]? = some q) ∨ ((∀ t : Nat, t < Y.length → gq_ps m t ≠ j) ∧ (gq_mg m Y Z)[j]? = some q) := by
  intro m
  induction m with
  | nil => intro Y Y' Z j q _ _ h; exact Or.inl ⟨j, rfl, h⟩
  | cons b m ih =>
    intro Y Y' Z j q hz hl h
    cases b with
    | true =>
      cases Y' with
      | nil =>
        cases Y with
        | nil => exact Or.inr ⟨fun t ht => by simp at ht, h⟩
        | cons y Y => simp at hl
      | cons y' Y' =>
        cases Y with
        | nil => simp at hl
        | cons y Y =>
          cases j with
          | zero => exact Or.inl ⟨0, rfl, by simpa [gq_mg] using h⟩
          | succ j =>
            rcases ih Y Y' Z j q hz (by simpa using hl) (by simpa [gq_mg] using h) with ⟨t, h1, h2⟩ | ⟨h1, h2⟩
            · exact Or.inl ⟨t + 1, by simp [gq_ps, h1], by simpa using h2⟩
            · refine Or.inr ⟨fun t ht => ?_, by simpa [gq_mg] using h2⟩
              cases t with
              | zero => simp [gq_ps]
              | succ t => simpa [gq_ps] using h1 t (by simpa using ht)
    | false =>
      cases Z with
      | nil => simp [gq_nf] at hz
      | cons z Z =>
        cases j with
        | zero => exact Or.inr ⟨fun t _ => by simp [gq_ps], by simpa [gq_mg] using h⟩
        | succ j =>
          rcases ih Y Y' Z j q (by simpa [gq_nf] using hz) hl (by simpa [gq_mg] using h) with ⟨t, h1, h2⟩ | ⟨h1, h2⟩
          · exact Or.inl ⟨t, by simp [gq_ps, h1], h2⟩
          · exact Or.inr ⟨fun t ht => by simpa [gq_ps] using h1 t ht, by simpa [gq_mg] using h2⟩
theorem gq_J.mg {ws WSc WSc' wsN : va_W} (m : List Bool) (Z : va_W) (h1 : ws = gq_mg m WSc Z) (h2 : gq_mg m WSc' Z = wsN) (hz : gq_nf m = Z.length) (ha : WSc'.map (fun q => q.1) = WSc.map (fun q => q.1)) : gq_J ws WSc WSc' wsN := by
  subst h1; subst h2
  have hl : WSc'.length = WSc.length := by have := congrArg List.length ha; simpa using this
  exact gq_J.gen (gq_ps m) (fun t q h => gq_ps_in m WSc Z t q hz h) (fun i j _ _ h => gq_ps_inj m i j h) ha (fun j q h => gq_mg_at m WSc WSc' Z j q hz hl h)
/-- two parts of a world's addresses -/
theorem gq_fst2 {a a' b b' : va_W} (h1 : a'.map (fun q => q.1) = a.map (fun q => q.1)) (h2 : b'.map (fun q => q.1) = b.map (fun q => q.1)) : (a' ++ b').map (fun q => q.1) = (a ++ b).map (fun q => q.1) := by
  rw [List.map_append, List.map_append, h1, h2]
/-- the callee's cells in another order -/
theorem gq_J.perm {ws X X' Y Y' wsN : va_W} (p p2 : List Nat) (h1 : p.map (fun i => X[i]?) = Y.map some) (h2 : p2.map (fun i => Y[i]?) = X.map some) (h3 : p2.map (fun i => Y'[i]?) = X'.map some) (hn : va_nd p = true) (h : gq_J ws X X' wsN) : gq_J ws Y Y' wsN := by
  have mem : ∀ (U V : va_W) (r : List Nat), r.map (fun i => U[i]?) = V.map some → ∀ q ∈ V, q ∈ U := by
    intro U V r hr q hq
    obtain ⟨t, ht⟩ := List.getElem?_of_mem hq
    have h9 := congrArg (fun L => L[t]?) hr
    simp only [List.getElem?_map, ht, Option.map_some] at h9
    cases hi : r[t]? with
    | none => rw [hi] at h9; simp at h9
    | some i => rw [hi] at h9; simp at h9; exact List.mem_of_getElem? h9
  have aw : ∀ (sz x : Nat), va_A Y sz x → va_A X sz x := by
    intro sz x hx
    rcases hx with ⟨k, e, hk⟩ | hx
    · obtain ⟨i, hi⟩ := List.getElem?_of_mem (mem X Y p h1 _ (List.mem_of_getElem? hk)); exact Or.inl ⟨i, e, hi⟩
    · exact Or.inr hx
  exact ⟨fun D H hp => (h.1 D H hp).sub p (gq_fm h1), fun A hd => (h.2.1 A hd).sub p hn h1, fun D A H H1 hP hD hk hP1 => h.2.2 D A H H1 hP hD (fun q g1 g2 => hk q g1 (fun g3 => g2 (aw _ _ g3))) (hP1.sub p2 (gq_fm h3))⟩
