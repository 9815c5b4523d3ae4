/-! ===== the constructors ===== -/
def rmC (d k n : Nat) : Room := { frames := d, cells := k, slots := n, locals := 40 * d }
def gq_S0 : gq_SH := (0, 0, (fun _ => 0), (fun _ => 0), (fun _ => 0), (fun _ => 0), (fun _ => 0), (fun _ => 0), 0, (fun _ => 0), (fun _ => 0), (fun _ => 0), 0, 0, 0, (fun _ => 0), (fun _ => 0), (fun _ => 0), gq_first)
theorem gq_wld {p : Program} {l : Launch} {e : Env} {R : Room} {s : State} {m : MethodId} {args : Array Value} {below : List Frame} {meth : Method} {c : Code} {D : va_G} {A : Nat → Prop} {nL : Nat} {Q : State → Prop} {k n pc : Nat} {lv : List (Nat × Value)} {st : List Value} {ws : va_W} (ws2 : va_W) (h : ws = ws2) (kk : Gx p l e R s m args below meth c D A nL Q k n pc lv st ws2) : Gx p l e R s m args below meth c D A nL Q k n pc lv st ws := h ▸ kk
theorem vp_q8 {cA : ClassId} {N : Nat} {f f2 : Nat → Option Nat} (h : ∀ j, j < N → f j = f2 j) : vp_cell cA (N, .inr (.inr (.inr (.inr f)))) = vp_cell cA (N, .inr (.inr (.inr (.inr f2)))) := by
  show arrV cA N (fun j => va_rf (f j)) = arrV cA N (fun j => va_rf (f2 j))
  unfold arrV
  congr 2
  funext j
  show va_rf (f j.val) = va_rf (f2 j.val)
  rw [h j.val j.isLt]
theorem gq_q8 {p : Program} {l : Launch} {e : Env} {R : Room} {s : State} {m : MethodId} {args : Array Value} {below : List Frame} {meth : Method} {c : Code} {D : va_G} {A : Nat → Prop} {nL : Nat} {Q : State → Prop} {k n pc : Nat} {lv : List (Nat × Value)} {st : List Value} {x : Nat × va_E} {qa N : Nat} {cA : ClassId} {f f2 : Nat → Option Nat} {T : va_W} (h : ∀ j, j < N → f j = f2 j) (kk : Gx p l e R s m args below meth c D A nL Q k n pc lv st (x :: (qa, .inl (cA, N, .inr (.inr (.inr (.inr f2))))) :: T)) : Gx p l e R s m args below meth c D A nL Q k n pc lv st (x :: (qa, .inl (cA, N, .inr (.inr (.inr (.inr f))))) :: T) := by
  intro H locs ls hP hD hS hl
  refine kk H locs ls (fun i q hq => ?_) ⟨fun i j u w hu hw huw => ?_, fun i q hq => ?_⟩ hS hl
  · match i, hq with
    | 0, hq => exact hP 0 q hq
    | 1, hq =>
      cases hq
      have h1 := hP 1 _ rfl
      show H[qa]? = some (vp_cell cA (N, .inr (.inr (.inr (.inr f2)))))
      rw [← vp_q8 h]
      exact h1
    | i + 2, hq => exact hP (i + 2) q hq
  · have sw : ∀ (i : Nat) (q : Nat × va_E), (x :: (qa, (.inl (cA, N, .inr (.inr (.inr (.inr f2)))) : va_E)) :: T)[i]? = some q → ∃ q0 : Nat × va_E, (x :: (qa, (.inl (cA, N, .inr (.inr (.inr (.inr f)))) : va_E)) :: T)[i]? = some q0 ∧ q0.1 = q.1 := by
      intro i q hq
      match i, hq with
      | 0, hq => exact ⟨q, hq, rfl⟩
      | 1, hq => cases hq; exact ⟨_, rfl, rfl⟩
      | i + 2, hq => exact ⟨q, hq, rfl⟩
    obtain ⟨x0, a1, a2⟩ := sw i u hu
    obtain ⟨y0, b1, b2⟩ := sw j w hw
    exact hD.1 i j x0 y0 a1 b1 (by rw [a2, b2, huw])
  · match i, hq with
    | 0, hq => exact hD.2 0 q hq
    | 1, hq => cases hq; exact hD.2 1 (qa, (.inl (cA, N, .inr (.inr (.inr (.inr f)))) : va_E)) rfl
    | i + 2, hq => exact hD.2 (i + 2) q hq
