/-! ===== a callee that doesn't touch what lies behind its caller's cells ===== -/
theorem gq_J.mgt {X WSc WSc' XN : va_W} (P : va_W) (m : List Bool) (Z : va_W) (h1 : X = gq_mg m WSc Z) (h2 : gq_mg m WSc' Z = XN) (hz : gq_nf m = Z.length) (ha : WSc'.map (fun q => q.1) = WSc.map (fun q => q.1)) (hx : XN.length = X.length) : gq_J (X ++ P) WSc WSc' (XN ++ P) := by
  subst h1; subst h2
  have hl : WSc'.length = WSc.length := by have := congrArg List.length ha; simpa using this
  have hin : ∀ (t : Nat) (q : Nat × va_E), WSc[t]? = some q → (gq_mg m WSc Z)[gq_ps m t]? = some q := fun t q h => gq_ps_in m WSc Z t q hz h
  have hlt : ∀ t : Nat, t < WSc.length → gq_ps m t < (gq_mg m WSc Z).length := fun t ht => by
    have h3 := hin t _ (List.getElem?_eq_getElem ht)
    exact (List.getElem?_eq_some_iff.mp h3).1
  refine gq_J.gen (gq_ps m) (fun t q h => ?_) (fun i j _ _ h => gq_ps_inj m i j h) ha (fun j q h => ?_)
  · have h3 := hin t q h
    rw [List.getElem?_append_left (List.getElem?_eq_some_iff.mp h3).1]
    exact h3
  · by_cases hj : j < (gq_mg m WSc' Z).length
    · rw [List.getElem?_append_left hj] at h
      rcases gq_mg_at m WSc WSc' Z j q hz hl h with h4 | h4
      · exact Or.inl h4
      · refine Or.inr ⟨h4.1, ?_⟩
        rw [List.getElem?_append_left (by omega)]
        exact h4.2
    · refine Or.inr ⟨fun t ht he => ?_, ?_⟩
      · have := hlt t ht
        omega
      · rw [List.getElem?_append_right (by omega)] at h ⊢
        rw [hx] at h
        exact h
