/-! ===== the start ===== -/
theorem rel0 {ar : Nat → Int64} (h : MR A0f ar) : REL 0 0 (fun _ => 0) (fun _ => 0) (fun _ => 0) (fun _ => 0) (fun _ => 0) (fun _ => 0) 0 (fun _ => 0) (fun _ => 0) (fun _ => 0) 0 0 0 (fun _ => 0) (fun _ => 0) (fun _ => 0) gq_first 1 0 0 0 0 0 (fun _ => 0) (fun _ => 0) (fun _ => 0) (fun _ => 0) 0 0 (fun _ => 0) (fun _ => 0) (fun _ => 0) (fun _ => 0) 0 0 (fun _ => gq_S0) 0 (fun _ => 0) (-1) 0 (fun _ => 0) ar 0 (fun _ => 0) 0 (fun _ => 0) (-1) 0 (fun _ => 0) (-1) (-1) := by
  have z6 : A0f 6 = 0 := A0_z (by omega)
  have z7 : A0f 7 = 0 := A0_z (by omega)
  have z8 : A0f 8 = 0 := A0_z (by omega)
  have z409 : A0f 409 = 0 := A0_z (by omega)
  refine ⟨A0f, fun _ => A0f, 0, fun _ => 0, 0, [], ⟨A0_VP.1, ⟨by rw [z6, nI_0], by rw [z7, nI_0], fun s hs => by rw [z6] at hs; omega, fun w hw => by rw [z7] at hw; omega⟩, ⟨by rw [z8, nI_0], fun i hi => by rw [z8] at hi; omega⟩, ⟨by rw [z409, nI_0], fun h9 => by rw [z409] at h9; omega⟩, fun k hk => ?_⟩, Or.inl (by decide +kernel), ⟨by omega, nI_0.symm, 0, by omega, nI_0.symm, fun i hi => by omega⟩, ⟨nI_0.symm, by omega, fun i hi => by omega⟩, ⟨⟨nI_0.symm, fun i hi => absurd hi (Nat.not_lt_zero i)⟩, Nat.zero_le _⟩, h, ⟨nI_0.symm, fun i hi => by omega⟩, ⟨nI_0.symm, by omega, fun i hi => by omega⟩, rfl, ⟨nI_0.symm, fun i hi => absurd hi (Nat.not_lt_zero i)⟩, by decide +kernel, by decide +kernel⟩
  rcases (show k = 0 ∨ k = 1 ∨ k = 2 ∨ k = 3 ∨ k = 4 ∨ k = 5 by omega) with rfl | rfl | rfl | rfl | rfl | rfl <;> decide +kernel
