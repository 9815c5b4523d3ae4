/-! ===== the shows of the history: rows of a pool ===== -/
abbrev gq_SH : Type := Int32 × Int32 × (Nat → Int32) × (Nat → Int32) × (Nat → Int32) × (Nat → Int32) × (Nat → Int32) × (Nat → Int64) × Int32 × (Nat → Int32) × (Nat → Int32) × (Nat → Int32) × Int32 × Int32 × Int32 × (Nat → Int32) × (Nat → Int32) × (Nat → Int32) × (Nat → Int32)
def gq_shw (cI cJ : ClassId) (a : Nat → Nat) (S : gq_SH) : va_W := [(a 0, .inr (6, [.ref (a 1), .ref (a 8), .ref (a 12), .ref (a 16)])), (a 1, .inr (9, [.int S.1, .int S.2.1, .ref (a 2), .ref (a 3), .ref (a 4), .ref (a 5), .ref (a 6), .ref (a 7)])), (a 2, .inl (cI, 32, .inl S.2.2.1)), (a 3, .inl (cI, 32, .inl S.2.2.2.1)), (a 4, .inl (cI, 32, .inl S.2.2.2.2.1)), (a 5, .inl (cI, 32, .inl S.2.2.2.2.2.1)), (a 6, .inl (cI, 256, .inl S.2.2.2.2.2.2.1)), (a 7, .inl (cJ, 24, .inr (.inl S.2.2.2.2.2.2.2.1))), (a 8, .inr (7, [.int S.2.2.2.2.2.2.2.2.1, .ref (a 9), .ref (a 10), .ref (a 11)])), (a 9, .inl (cI, 5, .inl S.2.2.2.2.2.2.2.2.2.1)), (a 10, .inl (cI, 5, .inl S.2.2.2.2.2.2.2.2.2.2.1)), (a 11, .inl (cI, 5, .inl S.2.2.2.2.2.2.2.2.2.2.2.1)), (a 12, .inr (2, [.int S.2.2.2.2.2.2.2.2.2.2.2.2.1, .int S.2.2.2.2.2.2.2.2.2.2.2.2.2.1, .int S.2.2.2.2.2.2.2.2.2.2.2.2.2.2.1, .ref (a 13), .ref (a 14), .ref (a 15)])), (a 13, .inl (cI, 32, .inl S.2.2.2.2.2.2.2.2.2.2.2.2.2.2.2.1)), (a 14, .inl (cI, 32, .inl S.2.2.2.2.2.2.2.2.2.2.2.2.2.2.2.2.1)), (a 15, .inl (cI, 32, .inl S.2.2.2.2.2.2.2.2.2.2.2.2.2.2.2.2.2.1)), (a 16, .inl (cI, 6, .inl S.2.2.2.2.2.2.2.2.2.2.2.2.2.2.2.2.2.2))]
abbrev gq_shB (cI cJ : ClassId) (hh : Nat → Nat) (Hs : Nat → gq_SH) : Nat → va_W := fun k => gq_shw cI cJ (fun j => hh (17 * k + j)) (Hs k)
def gq_hist (cI cJ : ClassId) (hh : Nat → Nat) (Hs : Nat → gq_SH) : va_W := gq_cat (gq_shB cI cJ hh Hs)
theorem gq_hist_fst (cI cJ : ClassId) (hh : Nat → Nat) (Hs Hs' : Nat → gq_SH) : (gq_hist cI cJ hh Hs').map (fun q => q.1) = (gq_hist cI cJ hh Hs).map (fun q => q.1) := by
  simp only [gq_hist, gq_cat, List.map_append]
  rfl
theorem gq_hist_up (cI cJ : ClassId) (hh : Nat → Nat) (Hs : Nat → gq_SH) (k : Nat) (S : gq_SH) : gq_cat (va_up (gq_shB cI cJ hh Hs) k (gq_shw cI cJ (fun j => hh (17 * k + j)) S)) = gq_hist cI cJ hh (va_up Hs k S) := by
  unfold gq_hist
  congr 1
  funext j
  by_cases h : j = k
  · subst h; rw [va_up_self]; show _ = gq_shw cI cJ _ (va_up Hs j S j); rw [va_up_self]
  · rw [va_up_ne _ _ h]; show gq_shw cI cJ _ (Hs j) = gq_shw cI cJ _ (va_up Hs k S j); rw [va_up_ne _ _ h]
theorem gq_hist_self (cI cJ : ClassId) (hh : Nat → Nat) (Hs : Nat → gq_SH) (k : Nat) : gq_cat (va_up (gq_shB cI cJ hh Hs) k (gq_shw cI cJ (fun j => hh (17 * k + j)) (Hs k))) = gq_hist cI cJ hh Hs := by
  unfold gq_hist
  congr 1
  funext j
  by_cases h : j = k
  · subst h; rw [va_up_self]
  · rw [va_up_ne _ _ h]
