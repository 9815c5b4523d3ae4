/-! ===== the constructors ===== -/
def rmC (d k n : Nat) : Room := { frames := d, cells := k, slots := n, locals := 40 * d }
def gq_S0 : gq_SH := (0, 0, (fun _ => 0), (fun _ => 0), (fun _ => 0), (fun _ => 0), (fun _ => 0), (fun _ => 0), 0, (fun _ => 0), (fun _ => 0), (fun _ => 0), 0, 0, 0, (fun _ => 0), (fun _ => 0), (fun _ => 0), gq_first)
theorem gq_wld {p : Program} {l : Launch} {e : Env} {R : Room} {s : State} {m : MethodId} {args : Array Value} {below : List Frame} {meth : Method} {c : Code} {D : va_G} {A : Nat → Prop} {nL : Nat} {Q : State → Prop} {k n pc : Nat} {lv : List (Nat × Value)} {st : List Value} {ws : va_W} (ws2 : va_W) (h : ws = ws2) (kk : Gx p l e R s m args below meth c D A nL Q k n pc lv st ws2) : Gx p l e R s m args below meth c D A nL Q k n pc lv st ws := h ▸ kk
theorem vp_q8 {cA : ClassId} {N : Nat} {f f2 : Nat → Option Nat} (h : ∀ j, j < N → f j = f2 j) : vp_cell cA (N, .inr (.inr (.inr (.inr f)))) = vp_cell cA (N, .inr (.inr (.inr (.inr f2)))) := by
  show arrV cA N (fun j => va_rf (f j)) = arrV cA N (fun j => va_rf (f2 j))
  unfold arrV
  congr 2
  funext j
  rw [h j.val j.isLt]
theorem gq_q8 {p : Program} {l : Launch} {e : Env} {R : Room} {s : State} {m : MethodId} {args : Array Value} {below : List Frame} {meth : Method} {c : Code} {D : va_G} {A : Nat → Prop} {nL : Nat} {Q : State → Prop} {k n pc : Nat} {lv : List (Nat × Value)} {st : List Value} {x : Nat × va_E} {qa N : Nat} {cA : ClassId} {f f2 : Nat → Option Nat} {T : va_W} (h : ∀ j, j < N → f j = f2 j) (kk : Gx p l e R s m args below meth c D A nL Q k n pc lv st (x :: (qa, .inl (cA, N, .inr (.inr (.inr (.inr f2))))) :: T)) : Gx p l e R s m args below meth c D A nL Q k n pc lv st (x :: (qa, .inl (cA, N, .inr (.inr (.inr (.inr f))))) :: T) := by
  intro H locs ls hP hD hS hl
  refine kk H locs ls (fun i q hq => ?_) ⟨fun i j x y hx hy hxy => ?_, fun i q hq => ?_⟩ hS hl
  · match i, hq with
    | 0, hq => exact hP 0 q hq
    | 1, hq =>
      cases hq
      have h1 := hP 1 _ rfl
      show H[qa]? = some (vp_cell cA (N, .inr (.inr (.inr (.inr f2)))))
      rw [← vp_q8 h]
      exact h1
    | i + 2, hq => exact hP (i + 2) q hq
  · have sw : ∀ (i : Nat) (q : Nat × va_E), (x :: (qa, (.inl (cA, N, .inr (.inr (.inr (.inr f2)))) : va_E)) :: T)[i]? = some q → ∃ q0 : Nat × va_E, (x :: (qa, (.inl (cA, N, .inr (.inr (.inr (.inr f)))) : va_E)) :: T)[i]? = some q0 ∧ q0.1 = q.1 := by
      intro i q hq
      match i, hq with
      | 0, hq => exact ⟨q, hq, rfl⟩
      | 1, hq => cases hq; exact ⟨_, rfl, rfl⟩
      | i + 2, hq => exact ⟨q, hq, rfl⟩
    obtain ⟨x0, a1, a2⟩ := sw i x hx
    obtain ⟨y0, b1, b2⟩ := sw j y hy
    exact hD.1 i j x0 y0 a1 b1 (by rw [a2, b2, hxy])
  · match i, hq with
    | 0, hq => exact hD.2 0 q hq
    | 1, hq => cases hq; exact hD.2 1 _ rfl
    | i + 2, hq => exact hD.2 (i + 2) q hq
def PX9 (cI cJ cZ cO : ClassId) (q : Nat) (W : va_W) : Prop := ∃ q1 q2 q3 q4 q5 q6 : Nat, W = [(q, .inr (9, [.int 0, .int 0, .ref q1, .ref q2, .ref q3, .ref q4, .ref q5, .ref q6])), (q1, .inl (cI, 32, .inl (fun _ => 0))), (q2, .inl (cI, 32, .inl (fun _ => 0))), (q3, .inl (cI, 32, .inl (fun _ => 0))), (q4, .inl (cI, 32, .inl (fun _ => 0))), (q5, .inl (cI, 256, .inl (fun _ => 0))), (q6, .inl (cJ, 24, .inr (.inl (fun _ => 0))))]
set_option maxHeartbeats 4000000 in
set_option maxRecDepth 100000 in
theorem kc_X9 (l : Launch) (D : va_G) (cI cJ cZ cO : ClassId) (z : Nat → Nat) (q : Nat) : Cv l yX9_init wsX9_init (rmC 1 6 408) D (gq_ty cI cJ cZ cO) cI z [.ref q] [(q, .inr (9, [.int 0, .int 0, .null, .null, .null, .null, .null, .null]))] (PX9 cI cJ cZ cO q) 6 408 := by
  refine Cv.of (cc := cX9_init) (maxL := 1) (by decide) rfl rfl (Nat.le_of_ble_eq_true rfl) ?_
  intro p e s m args below meth c A hC hN hnm
  have hin_X9 : ∀ w ∈ wsX90, w ∈ wsX9_init := fun w h => List.mem_cons_of_mem _ (List.mem_append_right _ h)
  refine gq_loc [(0, .ref q)] rfl ?_
  refine gq_aload_n hC 0 dX9_init_0 rfl rfl ?_
  refine gq_oinit hC (List.mem_of_getElem? (i := 1) rfl) (List.mem_of_getElem? (i := 2) rfl) (List.mem_of_getElem? (i := 3) rfl) dX9_init_1 ⟨Nat.le_of_ble_eq_true rfl, Nat.le_of_ble_eq_true rfl⟩ ?_
  refine gq_aload_n hC 0 dX9_init_4 rfl rfl ?_
  refine gq_bipush hC 32 dX9_init_5 (by decide) ?_
  refine gq_newI hC (N := 32) (t0 := 0) (List.mem_of_getElem? (i := 4) rfl) rfl (by decide) (by decide) (by decide) ⟨Nat.le_of_ble_eq_true rfl, Nat.le_of_ble_eq_true rfl⟩ dX9_init_7 (fun q1 => ?_)
  have hC := gq_at (k' := 1) (n' := 32) hC ⟨Nat.le_of_ble_eq_true rfl, Nat.le_of_ble_eq_true rfl⟩
  refine gq_wld ((q, .inr (9, [.int 0, .int 0, .null, .null, .null, .null, .null, .null])) :: ([] ++ [(q1, .inl (cI, 32, .inl (fun _ => 0)))])) rfl ?_
  refine gq_putF hC (kf := 2) 0 ((q, .inr (9, [.int 0, .int 0, .ref q1, .null, .null, .null, .null, .null])) :: ([] ++ [(q1, .inl (cI, 32, .inl (fun _ => 0)))])) hnm tyX9 tyX9_ok nmX9 hin_X9 rfl rfl (by decide) (show Cond.fieldLink RX9 9 (TX9 2).1 (TX9 2).2.1 (TX9 2).2.2.1 ∈ wsX9_init from List.mem_of_getElem? (i := 5) rfl) rfl rfl rfl rfl (by decide) dX9_init_9 rfl ?_
  refine gq_aload_n hC 0 dX9_init_12 rfl rfl ?_
  refine gq_bipush hC 32 dX9_init_13 (by decide) ?_
  refine gq_newI hC (N := 32) (t0 := 0) (List.mem_of_getElem? (i := 4) rfl) rfl (by decide) (by decide) (by decide) ⟨Nat.le_of_ble_eq_true rfl, Nat.le_of_ble_eq_true rfl⟩ dX9_init_15 (fun q2 => ?_)
  have hC := gq_at (k' := 2) (n' := 64) hC ⟨Nat.le_of_ble_eq_true rfl, Nat.le_of_ble_eq_true rfl⟩
  refine gq_wld ((q, .inr (9, [.int 0, .int 0, .ref q1, .null, .null, .null, .null, .null])) :: (([] ++ [(q1, .inl (cI, 32, .inl (fun _ => 0)))]) ++ [(q2, .inl (cI, 32, .inl (fun _ => 0)))])) rfl ?_
  refine gq_putF hC (kf := 3) 0 ((q, .inr (9, [.int 0, .int 0, .ref q1, .ref q2, .null, .null, .null, .null])) :: (([] ++ [(q1, .inl (cI, 32, .inl (fun _ => 0)))]) ++ [(q2, .inl (cI, 32, .inl (fun _ => 0)))])) hnm tyX9 tyX9_ok nmX9 hin_X9 rfl rfl (by decide) (show Cond.fieldLink RX9 15 (TX9 3).1 (TX9 3).2.1 (TX9 3).2.2.1 ∈ wsX9_init from List.mem_of_getElem? (i := 6) rfl) rfl rfl rfl rfl (by decide) dX9_init_17 rfl ?_
  refine gq_aload_n hC 0 dX9_init_20 rfl rfl ?_
  refine gq_bipush hC 32 dX9_init_21 (by decide) ?_
  refine gq_newI hC (N := 32) (t0 := 0) (List.mem_of_getElem? (i := 4) rfl) rfl (by decide) (by decide) (by decide) ⟨Nat.le_of_ble_eq_true rfl, Nat.le_of_ble_eq_true rfl⟩ dX9_init_23 (fun q3 => ?_)
  have hC := gq_at (k' := 3) (n' := 96) hC ⟨Nat.le_of_ble_eq_true rfl, Nat.le_of_ble_eq_true rfl⟩
  refine gq_wld ((q, .inr (9, [.int 0, .int 0, .ref q1, .ref q2, .null, .null, .null, .null])) :: ((([] ++ [(q1, .inl (cI, 32, .inl (fun _ => 0)))]) ++ [(q2, .inl (cI, 32, .inl (fun _ => 0)))]) ++ [(q3, .inl (cI, 32, .inl (fun _ => 0)))])) rfl ?_
  refine gq_putF hC (kf := 4) 0 ((q, .inr (9, [.int 0, .int 0, .ref q1, .ref q2, .ref q3, .null, .null, .null])) :: ((([] ++ [(q1, .inl (cI, 32, .inl (fun _ => 0)))]) ++ [(q2, .inl (cI, 32, .inl (fun _ => 0)))]) ++ [(q3, .inl (cI, 32, .inl (fun _ => 0)))])) hnm tyX9 tyX9_ok nmX9 hin_X9 rfl rfl (by decide) (show Cond.fieldLink RX9 18 (TX9 4).1 (TX9 4).2.1 (TX9 4).2.2.1 ∈ wsX9_init from List.mem_of_getElem? (i := 7) rfl) rfl rfl rfl rfl (by decide) dX9_init_25 rfl ?_
  refine gq_aload_n hC 0 dX9_init_28 rfl rfl ?_
  refine gq_bipush hC 32 dX9_init_29 (by decide) ?_
  refine gq_newI hC (N := 32) (t0 := 0) (List.mem_of_getElem? (i := 4) rfl) rfl (by decide) (by decide) (by decide) ⟨Nat.le_of_ble_eq_true rfl, Nat.le_of_ble_eq_true rfl⟩ dX9_init_31 (fun q4 => ?_)
  have hC := gq_at (k' := 4) (n' := 128) hC ⟨Nat.le_of_ble_eq_true rfl, Nat.le_of_ble_eq_true rfl⟩
  refine gq_wld ((q, .inr (9, [.int 0, .int 0, .ref q1, .ref q2, .ref q3, .null, .null, .null])) :: (((([] ++ [(q1, .inl (cI, 32, .inl (fun _ => 0)))]) ++ [(q2, .inl (cI, 32, .inl (fun _ => 0)))]) ++ [(q3, .inl (cI, 32, .inl (fun _ => 0)))]) ++ [(q4, .inl (cI, 32, .inl (fun _ => 0)))])) rfl ?_
  refine gq_putF hC (kf := 5) 0 ((q, .inr (9, [.int 0, .int 0, .ref q1, .ref q2, .ref q3, .ref q4, .null, .null])) :: (((([] ++ [(q1, .inl (cI, 32, .inl (fun _ => 0)))]) ++ [(q2, .inl (cI, 32, .inl (fun _ => 0)))]) ++ [(q3, .inl (cI, 32, .inl (fun _ => 0)))]) ++ [(q4, .inl (cI, 32, .inl (fun _ => 0)))])) hnm tyX9 tyX9_ok nmX9 hin_X9 rfl rfl (by decide) (show Cond.fieldLink RX9 21 (TX9 5).1 (TX9 5).2.1 (TX9 5).2.2.1 ∈ wsX9_init from List.mem_of_getElem? (i := 8) rfl) rfl rfl rfl rfl (by decide) dX9_init_33 rfl ?_
  refine gq_aload_n hC 0 dX9_init_36 rfl rfl ?_
  refine gq_sipush hC 256 dX9_init_37 (by decide) ?_
  refine gq_newI hC (N := 256) (t0 := 0) (List.mem_of_getElem? (i := 4) rfl) rfl (by decide) (by decide) (by decide) ⟨Nat.le_of_ble_eq_true rfl, Nat.le_of_ble_eq_true rfl⟩ dX9_init_40 (fun q5 => ?_)
  have hC := gq_at (k' := 5) (n' := 384) hC ⟨Nat.le_of_ble_eq_true rfl, Nat.le_of_ble_eq_true rfl⟩
  refine gq_wld ((q, .inr (9, [.int 0, .int 0, .ref q1, .ref q2, .ref q3, .ref q4, .null, .null])) :: ((((([] ++ [(q1, .inl (cI, 32, .inl (fun _ => 0)))]) ++ [(q2, .inl (cI, 32, .inl (fun _ => 0)))]) ++ [(q3, .inl (cI, 32, .inl (fun _ => 0)))]) ++ [(q4, .inl (cI, 32, .inl (fun _ => 0)))]) ++ [(q5, .inl (cI, 256, .inl (fun _ => 0)))])) rfl ?_
  refine gq_putF hC (kf := 6) 0 ((q, .inr (9, [.int 0, .int 0, .ref q1, .ref q2, .ref q3, .ref q4, .ref q5, .null])) :: ((((([] ++ [(q1, .inl (cI, 32, .inl (fun _ => 0)))]) ++ [(q2, .inl (cI, 32, .inl (fun _ => 0)))]) ++ [(q3, .inl (cI, 32, .inl (fun _ => 0)))]) ++ [(q4, .inl (cI, 32, .inl (fun _ => 0)))]) ++ [(q5, .inl (cI, 256, .inl (fun _ => 0)))])) hnm tyX9 tyX9_ok nmX9 hin_X9 rfl rfl (by decide) (show Cond.fieldLink RX9 24 (TX9 6).1 (TX9 6).2.1 (TX9 6).2.2.1 ∈ wsX9_init from List.mem_of_getElem? (i := 9) rfl) rfl rfl rfl rfl (by decide) dX9_init_42 rfl ?_
  refine gq_aload_n hC 0 dX9_init_45 rfl rfl ?_
  refine gq_bipush hC 24 dX9_init_46 (by decide) ?_
  refine gq_newJ hC (N := 24) (t0 := 1) (List.mem_of_getElem? (i := 10) rfl) rfl (by decide) (by decide) (by decide) ⟨Nat.le_of_ble_eq_true rfl, Nat.le_of_ble_eq_true rfl⟩ dX9_init_48 (fun q6 => ?_)
  have hC := gq_at (k' := 6) (n' := 408) hC ⟨Nat.le_of_ble_eq_true rfl, Nat.le_of_ble_eq_true rfl⟩
  refine gq_wld ((q, .inr (9, [.int 0, .int 0, .ref q1, .ref q2, .ref q3, .ref q4, .ref q5, .null])) :: (((((([] ++ [(q1, .inl (cI, 32, .inl (fun _ => 0)))]) ++ [(q2, .inl (cI, 32, .inl (fun _ => 0)))]) ++ [(q3, .inl (cI, 32, .inl (fun _ => 0)))]) ++ [(q4, .inl (cI, 32, .inl (fun _ => 0)))]) ++ [(q5, .inl (cI, 256, .inl (fun _ => 0)))]) ++ [(q6, .inl (cJ, 24, .inr (.inl (fun _ => 0))))])) rfl ?_
  refine gq_putF hC (kf := 7) 0 ((q, .inr (9, [.int 0, .int 0, .ref q1, .ref q2, .ref q3, .ref q4, .ref q5, .ref q6])) :: (((((([] ++ [(q1, .inl (cI, 32, .inl (fun _ => 0)))]) ++ [(q2, .inl (cI, 32, .inl (fun _ => 0)))]) ++ [(q3, .inl (cI, 32, .inl (fun _ => 0)))]) ++ [(q4, .inl (cI, 32, .inl (fun _ => 0)))]) ++ [(q5, .inl (cI, 256, .inl (fun _ => 0)))]) ++ [(q6, .inl (cJ, 24, .inr (.inl (fun _ => 0))))])) hnm tyX9 tyX9_ok nmX9 hin_X9 rfl rfl (by decide) (show Cond.fieldLink RX9 27 (TX9 7).1 (TX9 7).2.1 (TX9 7).2.2.1 ∈ wsX9_init from List.mem_of_getElem? (i := 11) rfl) rfl rfl rfl rfl (by decide) dX9_init_50 rfl ?_
  exact gq_cret hC (Nat.le_of_ble_eq_true rfl) (Nat.le_of_ble_eq_true rfl) ⟨q1, q2, q3, q4, q5, q6, rfl⟩ dX9_init_53
def PX7 (cI cJ cZ cO : ClassId) (q : Nat) (W : va_W) : Prop := ∃ q1 q2 q3 : Nat, W = [(q, .inr (7, [.int 0, .ref q1, .ref q2, .ref q3])), (q1, .inl (cI, 5, .inl (fun _ => 0))), (q2, .inl (cI, 5, .inl (fun _ => 0))), (q3, .inl (cI, 5, .inl (fun _ => 0)))]
set_option maxHeartbeats 4000000 in
set_option maxRecDepth 100000 in
theorem kc_X7 (l : Launch) (D : va_G) (cI cJ cZ cO : ClassId) (z : Nat → Nat) (q : Nat) : Cv l yX7_init wsX7_init (rmC 1 3 15) D (gq_ty cI cJ cZ cO) cI z [.ref q] [(q, .inr (7, [.int 0, .null, .null, .null]))] (PX7 cI cJ cZ cO q) 3 15 := by
  refine Cv.of (cc := cX7_init) (maxL := 1) (by decide) rfl rfl (Nat.le_of_ble_eq_true rfl) ?_
  intro p e s m args below meth c A hC hN hnm
  have hin_X7 : ∀ w ∈ wsX70, w ∈ wsX7_init := fun w h => List.mem_cons_of_mem _ (List.mem_append_right _ h)
  refine gq_loc [(0, .ref q)] rfl ?_
  refine gq_aload_n hC 0 dX7_init_0 rfl rfl ?_
  refine gq_oinit hC (List.mem_of_getElem? (i := 1) rfl) (List.mem_of_getElem? (i := 2) rfl) (List.mem_of_getElem? (i := 3) rfl) dX7_init_1 ⟨Nat.le_of_ble_eq_true rfl, Nat.le_of_ble_eq_true rfl⟩ ?_
  refine gq_aload_n hC 0 dX7_init_4 rfl rfl ?_
  refine gq_iconst hC 5 dX7_init_5 (by decide) ?_
  refine gq_newI hC (N := 5) (t0 := 0) (List.mem_of_getElem? (i := 4) rfl) rfl (by decide) (by decide) (by decide) ⟨Nat.le_of_ble_eq_true rfl, Nat.le_of_ble_eq_true rfl⟩ dX7_init_6 (fun q1 => ?_)
  have hC := gq_at (k' := 1) (n' := 5) hC ⟨Nat.le_of_ble_eq_true rfl, Nat.le_of_ble_eq_true rfl⟩
  refine gq_wld ((q, .inr (7, [.int 0, .null, .null, .null])) :: ([] ++ [(q1, .inl (cI, 5, .inl (fun _ => 0)))])) rfl ?_
  refine gq_putF hC (kf := 1) 0 ((q, .inr (7, [.int 0, .ref q1, .null, .null])) :: ([] ++ [(q1, .inl (cI, 5, .inl (fun _ => 0)))])) hnm tyX7 tyX7_ok nmX7 hin_X7 rfl rfl (by decide) (show Cond.fieldLink RX7 9 (TX7 1).1 (TX7 1).2.1 (TX7 1).2.2.1 ∈ wsX7_init from List.mem_of_getElem? (i := 5) rfl) rfl rfl rfl rfl (by decide) dX7_init_8 rfl ?_
  refine gq_aload_n hC 0 dX7_init_11 rfl rfl ?_
  refine gq_iconst hC 5 dX7_init_12 (by decide) ?_
  refine gq_newI hC (N := 5) (t0 := 0) (List.mem_of_getElem? (i := 4) rfl) rfl (by decide) (by decide) (by decide) ⟨Nat.le_of_ble_eq_true rfl, Nat.le_of_ble_eq_true rfl⟩ dX7_init_13 (fun q2 => ?_)
  have hC := gq_at (k' := 2) (n' := 10) hC ⟨Nat.le_of_ble_eq_true rfl, Nat.le_of_ble_eq_true rfl⟩
  refine gq_wld ((q, .inr (7, [.int 0, .ref q1, .null, .null])) :: (([] ++ [(q1, .inl (cI, 5, .inl (fun _ => 0)))]) ++ [(q2, .inl (cI, 5, .inl (fun _ => 0)))])) rfl ?_
  refine gq_putF hC (kf := 2) 0 ((q, .inr (7, [.int 0, .ref q1, .ref q2, .null])) :: (([] ++ [(q1, .inl (cI, 5, .inl (fun _ => 0)))]) ++ [(q2, .inl (cI, 5, .inl (fun _ => 0)))])) hnm tyX7 tyX7_ok nmX7 hin_X7 rfl rfl (by decide) (show Cond.fieldLink RX7 15 (TX7 2).1 (TX7 2).2.1 (TX7 2).2.2.1 ∈ wsX7_init from List.mem_of_getElem? (i := 6) rfl) rfl rfl rfl rfl (by decide) dX7_init_15 rfl ?_
  refine gq_aload_n hC 0 dX7_init_18 rfl rfl ?_
  refine gq_iconst hC 5 dX7_init_19 (by decide) ?_
  refine gq_newI hC (N := 5) (t0 := 0) (List.mem_of_getElem? (i := 4) rfl) rfl (by decide) (by decide) (by decide) ⟨Nat.le_of_ble_eq_true rfl, Nat.le_of_ble_eq_true rfl⟩ dX7_init_20 (fun q3 => ?_)
  have hC := gq_at (k' := 3) (n' := 15) hC ⟨Nat.le_of_ble_eq_true rfl, Nat.le_of_ble_eq_true rfl⟩
  refine gq_wld ((q, .inr (7, [.int 0, .ref q1, .ref q2, .null])) :: ((([] ++ [(q1, .inl (cI, 5, .inl (fun _ => 0)))]) ++ [(q2, .inl (cI, 5, .inl (fun _ => 0)))]) ++ [(q3, .inl (cI, 5, .inl (fun _ => 0)))])) rfl ?_
  refine gq_putF hC (kf := 3) 0 ((q, .inr (7, [.int 0, .ref q1, .ref q2, .ref q3])) :: ((([] ++ [(q1, .inl (cI, 5, .inl (fun _ => 0)))]) ++ [(q2, .inl (cI, 5, .inl (fun _ => 0)))]) ++ [(q3, .inl (cI, 5, .inl (fun _ => 0)))])) hnm tyX7 tyX7_ok nmX7 hin_X7 rfl rfl (by decide) (show Cond.fieldLink RX7 18 (TX7 3).1 (TX7 3).2.1 (TX7 3).2.2.1 ∈ wsX7_init from List.mem_of_getElem? (i := 7) rfl) rfl rfl rfl rfl (by decide) dX7_init_22 rfl ?_
  exact gq_cret hC (Nat.le_of_ble_eq_true rfl) (Nat.le_of_ble_eq_true rfl) ⟨q1, q2, q3, rfl⟩ dX7_init_25
def PX2 (cI cJ cZ cO : ClassId) (q : Nat) (W : va_W) : Prop := ∃ q1 q2 q3 : Nat, W = [(q, .inr (2, [.int 0, .int 0, .int 0, .ref q1, .ref q2, .ref q3])), (q1, .inl (cI, 32, .inl (fun _ => 0))), (q2, .inl (cI, 32, .inl (fun _ => 0))), (q3, .inl (cI, 32, .inl (fun _ => 0)))]
set_option maxHeartbeats 4000000 in
set_option maxRecDepth 100000 in
theorem kc_X2 (l : Launch) (D : va_G) (cI cJ cZ cO : ClassId) (z : Nat → Nat) (q : Nat) : Cv l yX2_init wsX2_init (rmC 1 3 96) D (gq_ty cI cJ cZ cO) cI z [.ref q] [(q, .inr (2, [.int 0, .int 0, .int 0, .null, .null, .null]))] (PX2 cI cJ cZ cO q) 3 96 := by
  refine Cv.of (cc := cX2_init) (maxL := 1) (by decide) rfl rfl (Nat.le_of_ble_eq_true rfl) ?_
  intro p e s m args below meth c A hC hN hnm
  have hin_X2 : ∀ w ∈ wsX20, w ∈ wsX2_init := fun w h => List.mem_cons_of_mem _ (List.mem_append_right _ h)
  refine gq_loc [(0, .ref q)] rfl ?_
  refine gq_aload_n hC 0 dX2_init_0 rfl rfl ?_
  refine gq_oinit hC (List.mem_of_getElem? (i := 1) rfl) (List.mem_of_getElem? (i := 2) rfl) (List.mem_of_getElem? (i := 3) rfl) dX2_init_1 ⟨Nat.le_of_ble_eq_true rfl, Nat.le_of_ble_eq_true rfl⟩ ?_
  refine gq_aload_n hC 0 dX2_init_4 rfl rfl ?_
  refine gq_bipush hC 32 dX2_init_5 (by decide) ?_
  refine gq_newI hC (N := 32) (t0 := 0) (List.mem_of_getElem? (i := 4) rfl) rfl (by decide) (by decide) (by decide) ⟨Nat.le_of_ble_eq_true rfl, Nat.le_of_ble_eq_true rfl⟩ dX2_init_7 (fun q1 => ?_)
  have hC := gq_at (k' := 1) (n' := 32) hC ⟨Nat.le_of_ble_eq_true rfl, Nat.le_of_ble_eq_true rfl⟩
  refine gq_wld ((q, .inr (2, [.int 0, .int 0, .int 0, .null, .null, .null])) :: ([] ++ [(q1, .inl (cI, 32, .inl (fun _ => 0)))])) rfl ?_
  refine gq_putF hC (kf := 3) 0 ((q, .inr (2, [.int 0, .int 0, .int 0, .ref q1, .null, .null])) :: ([] ++ [(q1, .inl (cI, 32, .inl (fun _ => 0)))])) hnm tyX2 tyX2_ok nmX2 hin_X2 rfl rfl (by decide) (show Cond.fieldLink RX2 9 (TX2 3).1 (TX2 3).2.1 (TX2 3).2.2.1 ∈ wsX2_init from List.mem_of_getElem? (i := 5) rfl) rfl rfl rfl rfl (by decide) dX2_init_9 rfl ?_
  refine gq_aload_n hC 0 dX2_init_12 rfl rfl ?_
  refine gq_bipush hC 32 dX2_init_13 (by decide) ?_
  refine gq_newI hC (N := 32) (t0 := 0) (List.mem_of_getElem? (i := 4) rfl) rfl (by decide) (by decide) (by decide) ⟨Nat.le_of_ble_eq_true rfl, Nat.le_of_ble_eq_true rfl⟩ dX2_init_15 (fun q2 => ?_)
  have hC := gq_at (k' := 2) (n' := 64) hC ⟨Nat.le_of_ble_eq_true rfl, Nat.le_of_ble_eq_true rfl⟩
  refine gq_wld ((q, .inr (2, [.int 0, .int 0, .int 0, .ref q1, .null, .null])) :: (([] ++ [(q1, .inl (cI, 32, .inl (fun _ => 0)))]) ++ [(q2, .inl (cI, 32, .inl (fun _ => 0)))])) rfl ?_
  refine gq_putF hC (kf := 4) 0 ((q, .inr (2, [.int 0, .int 0, .int 0, .ref q1, .ref q2, .null])) :: (([] ++ [(q1, .inl (cI, 32, .inl (fun _ => 0)))]) ++ [(q2, .inl (cI, 32, .inl (fun _ => 0)))])) hnm tyX2 tyX2_ok nmX2 hin_X2 rfl rfl (by decide) (show Cond.fieldLink RX2 15 (TX2 4).1 (TX2 4).2.1 (TX2 4).2.2.1 ∈ wsX2_init from List.mem_of_getElem? (i := 6) rfl) rfl rfl rfl rfl (by decide) dX2_init_17 rfl ?_
  refine gq_aload_n hC 0 dX2_init_20 rfl rfl ?_
  refine gq_bipush hC 32 dX2_init_21 (by decide) ?_
  refine gq_newI hC (N := 32) (t0 := 0) (List.mem_of_getElem? (i := 4) rfl) rfl (by decide) (by decide) (by decide) ⟨Nat.le_of_ble_eq_true rfl, Nat.le_of_ble_eq_true rfl⟩ dX2_init_23 (fun q3 => ?_)
  have hC := gq_at (k' := 3) (n' := 96) hC ⟨Nat.le_of_ble_eq_true rfl, Nat.le_of_ble_eq_true rfl⟩
  refine gq_wld ((q, .inr (2, [.int 0, .int 0, .int 0, .ref q1, .ref q2, .null])) :: ((([] ++ [(q1, .inl (cI, 32, .inl (fun _ => 0)))]) ++ [(q2, .inl (cI, 32, .inl (fun _ => 0)))]) ++ [(q3, .inl (cI, 32, .inl (fun _ => 0)))])) rfl ?_
  refine gq_putF hC (kf := 5) 0 ((q, .inr (2, [.int 0, .int 0, .int 0, .ref q1, .ref q2, .ref q3])) :: ((([] ++ [(q1, .inl (cI, 32, .inl (fun _ => 0)))]) ++ [(q2, .inl (cI, 32, .inl (fun _ => 0)))]) ++ [(q3, .inl (cI, 32, .inl (fun _ => 0)))])) hnm tyX2 tyX2_ok nmX2 hin_X2 rfl rfl (by decide) (show Cond.fieldLink RX2 18 (TX2 5).1 (TX2 5).2.1 (TX2 5).2.2.1 ∈ wsX2_init from List.mem_of_getElem? (i := 7) rfl) rfl rfl rfl rfl (by decide) dX2_init_25 rfl ?_
  exact gq_cret hC (Nat.le_of_ble_eq_true rfl) (Nat.le_of_ble_eq_true rfl) ⟨q1, q2, q3, rfl⟩ dX2_init_28
theorem gq_shw_of : True := trivial
def PX6 (cI cJ cZ cO : ClassId) (q : Nat) (W : va_W) : Prop := ∃ a : Nat → Nat, a 0 = q ∧ W = gq_shw cI cJ a gq_S0
set_option maxHeartbeats 4000000 in
set_option maxRecDepth 100000 in
theorem kc_X6 (l : Launch) (D : va_G) (cI cJ cZ cO : ClassId) (z : Nat → Nat) (q : Nat) : Cv l yX6_init wsX6_init (rmC 2 16 543) D (gq_ty cI cJ cZ cO) cI z [.ref q] [(q, .inr (6, [.null, .null, .null, .null]))] (PX6 cI cJ cZ cO q) 16 543 := by
  refine Cv.of (cc := cX6_init) (maxL := 1) (by decide) rfl rfl (Nat.le_of_ble_eq_true rfl) ?_
  intro p e s m args below meth c A hC hN hnm
  have hin_X6 : ∀ w ∈ wsX60, w ∈ wsX6_init := fun w h => List.mem_cons_of_mem _ (List.mem_append_left _ (List.mem_append_left _ (List.mem_append_right _ h)))
  refine gq_loc [(0, .ref q)] rfl ?_
  refine gq_aload_n hC 0 dX6_init_0 rfl rfl ?_
  refine gq_oinit hC (List.mem_of_getElem? (i := 1) rfl) (List.mem_of_getElem? (i := 2) rfl) (List.mem_of_getElem? (i := 3) rfl) dX6_init_1 ⟨Nat.le_of_ble_eq_true rfl, Nat.le_of_ble_eq_true rfl⟩ ?_
  refine gq_aload_n hC 0 dX6_init_4 rfl rfl ?_
  refine gq_newC hC hN (ci := 9) tyX9 (fun w h => List.mem_cons_of_mem _ (List.mem_append_left _ (List.mem_append_left _ (List.mem_append_left _ (List.mem_append_right _ h))))) tyX9_ok rfl (fun j hj => by rcases (show j = 0 ∨ j = 1 ∨ j = 2 ∨ j = 3 ∨ j = 4 ∨ j = 5 ∨ j = 6 ∨ j = 7 by omega) with rfl | rfl | rfl | rfl | rfl | rfl | rfl | rfl <;> rfl) ⟨(List.mem_of_getElem? (i := 4) rfl), (List.mem_of_getElem? (i := 5) rfl), (List.mem_of_getElem? (i := 6) rfl)⟩ (fun q9 => kc_X9 l D cI cJ cZ cO z q9) gX6_init_X9_init_n11 rfl ⟨rfl, rfl⟩ ⟨rfl, rfl⟩ (by decide +kernel) (List.mem_of_getElem? (i := 23) rfl) (Or.inl (hN.1 (RX6, 11, yX9_init) (by simp [gq_nl]))) ⟨Nat.le_of_ble_eq_true rfl, Nat.le_of_ble_eq_true rfl⟩ ⟨Nat.le_of_ble_eq_true rfl, Nat.le_of_ble_eq_true rfl⟩ (Nat.le_of_ble_eq_true rfl) dX6_init_5 dX6_init_8 dX6_init_9 (fun q1 W9 h9 => ?_)
  have hC := gq_at (k' := 7) (n' := 416) hC ⟨Nat.le_of_ble_eq_true rfl, Nat.le_of_ble_eq_true rfl⟩
  obtain ⟨q2, q3, q4, q5, q6, q7, rfl⟩ := h9
  refine gq_wld ((q, .inr (6, [.null, .null, .null, .null])) :: ([] ++ [(q1, .inr (9, [.int 0, .int 0, .ref q2, .ref q3, .ref q4, .ref q5, .ref q6, .ref q7])), (q2, .inl (cI, 32, .inl (fun _ => 0))), (q3, .inl (cI, 32, .inl (fun _ => 0))), (q4, .inl (cI, 32, .inl (fun _ => 0))), (q5, .inl (cI, 32, .inl (fun _ => 0))), (q6, .inl (cI, 256, .inl (fun _ => 0))), (q7, .inl (cJ, 24, .inr (.inl (fun _ => 0))))])) rfl ?_
  refine gq_putF hC (kf := 0) 0 ((q, .inr (6, [.ref q1, .null, .null, .null])) :: ([] ++ [(q1, .inr (9, [.int 0, .int 0, .ref q2, .ref q3, .ref q4, .ref q5, .ref q6, .ref q7])), (q2, .inl (cI, 32, .inl (fun _ => 0))), (q3, .inl (cI, 32, .inl (fun _ => 0))), (q4, .inl (cI, 32, .inl (fun _ => 0))), (q5, .inl (cI, 32, .inl (fun _ => 0))), (q6, .inl (cI, 256, .inl (fun _ => 0))), (q7, .inl (cJ, 24, .inr (.inl (fun _ => 0))))])) hnm tyX6 tyX6_ok nmX6 hin_X6 rfl rfl (by decide) (show Cond.fieldLink RX6 12 (TX6 0).1 (TX6 0).2.1 (TX6 0).2.2.1 ∈ wsX6_init from List.mem_of_getElem? (i := 7) rfl) rfl rfl rfl rfl (by decide) dX6_init_12 rfl ?_
  refine gq_aload_n hC 0 dX6_init_15 rfl rfl ?_
  refine gq_newC hC hN (ci := 7) tyX7 (fun w h => List.mem_cons_of_mem _ (List.mem_append_left _ (List.mem_append_right _ h))) tyX7_ok rfl (fun j hj => by rcases (show j = 0 ∨ j = 1 ∨ j = 2 ∨ j = 3 by omega) with rfl | rfl | rfl | rfl <;> rfl) ⟨(List.mem_of_getElem? (i := 8) rfl), (List.mem_of_getElem? (i := 9) rfl), (List.mem_of_getElem? (i := 10) rfl)⟩ (fun q9 => kc_X7 l D cI cJ cZ cO z q9) gX6_init_X7_init_n20 rfl ⟨rfl, rfl⟩ ⟨rfl, rfl⟩ (by decide +kernel) (List.mem_of_getElem? (i := 34) rfl) (Or.inl (hN.1 (RX6, 20, yX7_init) (by simp [gq_nl]))) ⟨Nat.le_of_ble_eq_true rfl, Nat.le_of_ble_eq_true rfl⟩ ⟨Nat.le_of_ble_eq_true rfl, Nat.le_of_ble_eq_true rfl⟩ (Nat.le_of_ble_eq_true rfl) dX6_init_16 dX6_init_19 dX6_init_20 (fun q8 W9 h9 => ?_)
  have hC := gq_at (k' := 11) (n' := 435) hC ⟨Nat.le_of_ble_eq_true rfl, Nat.le_of_ble_eq_true rfl⟩
  obtain ⟨q9, q10, q11, rfl⟩ := h9
  refine gq_wld ((q, .inr (6, [.ref q1, .null, .null, .null])) :: (([] ++ [(q1, .inr (9, [.int 0, .int 0, .ref q2, .ref q3, .ref q4, .ref q5, .ref q6, .ref q7])), (q2, .inl (cI, 32, .inl (fun _ => 0))), (q3, .inl (cI, 32, .inl (fun _ => 0))), (q4, .inl (cI, 32, .inl (fun _ => 0))), (q5, .inl (cI, 32, .inl (fun _ => 0))), (q6, .inl (cI, 256, .inl (fun _ => 0))), (q7, .inl (cJ, 24, .inr (.inl (fun _ => 0))))]) ++ [(q8, .inr (7, [.int 0, .ref q9, .ref q10, .ref q11])), (q9, .inl (cI, 5, .inl (fun _ => 0))), (q10, .inl (cI, 5, .inl (fun _ => 0))), (q11, .inl (cI, 5, .inl (fun _ => 0)))])) rfl ?_
  refine gq_putF hC (kf := 1) 0 ((q, .inr (6, [.ref q1, .ref q8, .null, .null])) :: (([] ++ [(q1, .inr (9, [.int 0, .int 0, .ref q2, .ref q3, .ref q4, .ref q5, .ref q6, .ref q7])), (q2, .inl (cI, 32, .inl (fun _ => 0))), (q3, .inl (cI, 32, .inl (fun _ => 0))), (q4, .inl (cI, 32, .inl (fun _ => 0))), (q5, .inl (cI, 32, .inl (fun _ => 0))), (q6, .inl (cI, 256, .inl (fun _ => 0))), (q7, .inl (cJ, 24, .inr (.inl (fun _ => 0))))]) ++ [(q8, .inr (7, [.int 0, .ref q9, .ref q10, .ref q11])), (q9, .inl (cI, 5, .inl (fun _ => 0))), (q10, .inl (cI, 5, .inl (fun _ => 0))), (q11, .inl (cI, 5, .inl (fun _ => 0)))])) hnm tyX6 tyX6_ok nmX6 hin_X6 rfl rfl (by decide) (show Cond.fieldLink RX6 21 (TX6 1).1 (TX6 1).2.1 (TX6 1).2.2.1 ∈ wsX6_init from List.mem_of_getElem? (i := 11) rfl) rfl rfl rfl rfl (by decide) dX6_init_23 rfl ?_
  refine gq_aload_n hC 0 dX6_init_26 rfl rfl ?_
  refine gq_newC hC hN (ci := 2) tyX2 (fun w h => List.mem_cons_of_mem _ (List.mem_append_right _ h)) tyX2_ok rfl (fun j hj => by rcases (show j = 0 ∨ j = 1 ∨ j = 2 ∨ j = 3 ∨ j = 4 ∨ j = 5 by omega) with rfl | rfl | rfl | rfl | rfl | rfl <;> rfl) ⟨(List.mem_of_getElem? (i := 12) rfl), (List.mem_of_getElem? (i := 13) rfl), (List.mem_of_getElem? (i := 14) rfl)⟩ (fun q9 => kc_X2 l D cI cJ cZ cO z q9) gX6_init_X2_init_n27 rfl ⟨rfl, rfl⟩ ⟨rfl, rfl⟩ (by decide +kernel) (List.mem_of_getElem? (i := 40) rfl) (Or.inl (hN.1 (RX6, 27, yX2_init) (by simp [gq_nl]))) ⟨Nat.le_of_ble_eq_true rfl, Nat.le_of_ble_eq_true rfl⟩ ⟨Nat.le_of_ble_eq_true rfl, Nat.le_of_ble_eq_true rfl⟩ (Nat.le_of_ble_eq_true rfl) dX6_init_27 dX6_init_30 dX6_init_31 (fun q12 W9 h9 => ?_)
  have hC := gq_at (k' := 15) (n' := 537) hC ⟨Nat.le_of_ble_eq_true rfl, Nat.le_of_ble_eq_true rfl⟩
  obtain ⟨q13, q14, q15, rfl⟩ := h9
  refine gq_wld ((q, .inr (6, [.ref q1, .ref q8, .null, .null])) :: ((([] ++ [(q1, .inr (9, [.int 0, .int 0, .ref q2, .ref q3, .ref q4, .ref q5, .ref q6, .ref q7])), (q2, .inl (cI, 32, .inl (fun _ => 0))), (q3, .inl (cI, 32, .inl (fun _ => 0))), (q4, .inl (cI, 32, .inl (fun _ => 0))), (q5, .inl (cI, 32, .inl (fun _ => 0))), (q6, .inl (cI, 256, .inl (fun _ => 0))), (q7, .inl (cJ, 24, .inr (.inl (fun _ => 0))))]) ++ [(q8, .inr (7, [.int 0, .ref q9, .ref q10, .ref q11])), (q9, .inl (cI, 5, .inl (fun _ => 0))), (q10, .inl (cI, 5, .inl (fun _ => 0))), (q11, .inl (cI, 5, .inl (fun _ => 0)))]) ++ [(q12, .inr (2, [.int 0, .int 0, .int 0, .ref q13, .ref q14, .ref q15])), (q13, .inl (cI, 32, .inl (fun _ => 0))), (q14, .inl (cI, 32, .inl (fun _ => 0))), (q15, .inl (cI, 32, .inl (fun _ => 0)))])) rfl ?_
  refine gq_putF hC (kf := 2) 0 ((q, .inr (6, [.ref q1, .ref q8, .ref q12, .null])) :: ((([] ++ [(q1, .inr (9, [.int 0, .int 0, .ref q2, .ref q3, .ref q4, .ref q5, .ref q6, .ref q7])), (q2, .inl (cI, 32, .inl (fun _ => 0))), (q3, .inl (cI, 32, .inl (fun _ => 0))), (q4, .inl (cI, 32, .inl (fun _ => 0))), (q5, .inl (cI, 32, .inl (fun _ => 0))), (q6, .inl (cI, 256, .inl (fun _ => 0))), (q7, .inl (cJ, 24, .inr (.inl (fun _ => 0))))]) ++ [(q8, .inr (7, [.int 0, .ref q9, .ref q10, .ref q11])), (q9, .inl (cI, 5, .inl (fun _ => 0))), (q10, .inl (cI, 5, .inl (fun _ => 0))), (q11, .inl (cI, 5, .inl (fun _ => 0)))]) ++ [(q12, .inr (2, [.int 0, .int 0, .int 0, .ref q13, .ref q14, .ref q15])), (q13, .inl (cI, 32, .inl (fun _ => 0))), (q14, .inl (cI, 32, .inl (fun _ => 0))), (q15, .inl (cI, 32, .inl (fun _ => 0)))])) hnm tyX6 tyX6_ok nmX6 hin_X6 rfl rfl (by decide) (show Cond.fieldLink RX6 28 (TX6 2).1 (TX6 2).2.1 (TX6 2).2.2.1 ∈ wsX6_init from List.mem_of_getElem? (i := 15) rfl) rfl rfl rfl rfl (by decide) dX6_init_34 rfl ?_
  refine gq_aload_n hC 0 dX6_init_37 rfl rfl ?_
  refine gq_getsN hC (host := RX10) hC.2.2.2.2.2.2.2.2.2.2.2.2.1 hC.2.2.2.2.2.1.2.2.2.2.2 dX6_init_38 ?_
  refine gq_cloneF hC (t0 := 0) hN (List.mem_of_getElem? (i := 16) rfl) (List.mem_of_getElem? (i := 17) rfl) (List.mem_of_getElem? (i := 18) rfl) (List.mem_of_getElem? (i := 19) rfl) (List.mem_of_getElem? (i := 20) rfl) rfl ⟨Nat.le_of_ble_eq_true rfl, Nat.le_of_ble_eq_true rfl⟩ ⟨Nat.le_of_ble_eq_true rfl, Nat.le_of_ble_eq_true rfl⟩ dX6_init_41 (fun q16 => ?_)
  have hC := gq_at (k' := 16) (n' := 543) hC ⟨Nat.le_of_ble_eq_true rfl, Nat.le_of_ble_eq_true rfl⟩
  refine gq_wld ((q, .inr (6, [.ref q1, .ref q8, .ref q12, .null])) :: (((([] ++ [(q1, .inr (9, [.int 0, .int 0, .ref q2, .ref q3, .ref q4, .ref q5, .ref q6, .ref q7])), (q2, .inl (cI, 32, .inl (fun _ => 0))), (q3, .inl (cI, 32, .inl (fun _ => 0))), (q4, .inl (cI, 32, .inl (fun _ => 0))), (q5, .inl (cI, 32, .inl (fun _ => 0))), (q6, .inl (cI, 256, .inl (fun _ => 0))), (q7, .inl (cJ, 24, .inr (.inl (fun _ => 0))))]) ++ [(q8, .inr (7, [.int 0, .ref q9, .ref q10, .ref q11])), (q9, .inl (cI, 5, .inl (fun _ => 0))), (q10, .inl (cI, 5, .inl (fun _ => 0))), (q11, .inl (cI, 5, .inl (fun _ => 0)))]) ++ [(q12, .inr (2, [.int 0, .int 0, .int 0, .ref q13, .ref q14, .ref q15])), (q13, .inl (cI, 32, .inl (fun _ => 0))), (q14, .inl (cI, 32, .inl (fun _ => 0))), (q15, .inl (cI, 32, .inl (fun _ => 0)))]) ++ [(q16, .inl (cI, 6, .inl gq_first))])) rfl ?_
  refine gq_castI hC (t0 := 0) 16 (List.mem_of_getElem? (i := 21) rfl) rfl rfl dX6_init_44 ?_
  refine gq_putF hC (kf := 3) 0 ((q, .inr (6, [.ref q1, .ref q8, .ref q12, .ref q16])) :: (((([] ++ [(q1, .inr (9, [.int 0, .int 0, .ref q2, .ref q3, .ref q4, .ref q5, .ref q6, .ref q7])), (q2, .inl (cI, 32, .inl (fun _ => 0))), (q3, .inl (cI, 32, .inl (fun _ => 0))), (q4, .inl (cI, 32, .inl (fun _ => 0))), (q5, .inl (cI, 32, .inl (fun _ => 0))), (q6, .inl (cI, 256, .inl (fun _ => 0))), (q7, .inl (cJ, 24, .inr (.inl (fun _ => 0))))]) ++ [(q8, .inr (7, [.int 0, .ref q9, .ref q10, .ref q11])), (q9, .inl (cI, 5, .inl (fun _ => 0))), (q10, .inl (cI, 5, .inl (fun _ => 0))), (q11, .inl (cI, 5, .inl (fun _ => 0)))]) ++ [(q12, .inr (2, [.int 0, .int 0, .int 0, .ref q13, .ref q14, .ref q15])), (q13, .inl (cI, 32, .inl (fun _ => 0))), (q14, .inl (cI, 32, .inl (fun _ => 0))), (q15, .inl (cI, 32, .inl (fun _ => 0)))]) ++ [(q16, .inl (cI, 6, .inl gq_first))])) hnm tyX6 tyX6_ok nmX6 hin_X6 rfl rfl (by decide) (show Cond.fieldLink RX6 41 (TX6 3).1 (TX6 3).2.1 (TX6 3).2.2.1 ∈ wsX6_init from List.mem_of_getElem? (i := 22) rfl) rfl rfl rfl rfl (by decide) dX6_init_47 rfl ?_
  exact gq_cret hC (Nat.le_of_ble_eq_true rfl) (Nat.le_of_ble_eq_true rfl) ⟨fun j => ([q, q1, q2, q3, q4, q5, q6, q7, q8, q9, q10, q11, q12, q13, q14, q15, q16] : List Nat).getD j 0, rfl, rfl⟩ dX6_init_50
def PX5 (cI cJ cZ cO : ClassId) (q : Nat) (W : va_W) : Prop := ∃ (a : Nat → Nat) (t : Nat), W = (q, .inr (5, [.int 0, .int 0, .int (-1), .ref (a 0), .ref t, .int 0, .int 0])) :: (gq_shw cI cJ a gq_S0 ++ [(t, .inl (cI, 900, .inl (fun _ => 0)))])
set_option maxHeartbeats 4000000 in
set_option maxRecDepth 100000 in
theorem kc_X5 (l : Launch) (D : va_G) (cI cJ cZ cO : ClassId) (z : Nat → Nat) (q : Nat) : Cv l yX5_init wsX5_init (rmC 3 18 1447) D (gq_ty cI cJ cZ cO) cI z [.ref q] [(q, .inr (5, [.int 0, .int 0, .int 0, .null, .null, .int 0, .int 0]))] (PX5 cI cJ cZ cO q) 18 1447 := by
  refine Cv.of (cc := cX5_init) (maxL := 1) (by decide) rfl rfl (Nat.le_of_ble_eq_true rfl) ?_
  intro p e s m args below meth c A hC hN hnm
  have hin_X5 : ∀ w ∈ wsX50, w ∈ wsX5_init := fun w h => List.mem_cons_of_mem _ (List.mem_append_left _ (List.mem_append_left _ (List.mem_append_left _ (List.mem_append_left _ (List.mem_append_right _ h)))))
  refine gq_loc [(0, .ref q)] rfl ?_
  refine gq_aload_n hC 0 dX5_init_0 rfl rfl ?_
  refine gq_oinit hC (List.mem_of_getElem? (i := 1) rfl) (List.mem_of_getElem? (i := 2) rfl) (List.mem_of_getElem? (i := 3) rfl) dX5_init_1 ⟨Nat.le_of_ble_eq_true rfl, Nat.le_of_ble_eq_true rfl⟩ ?_
  refine gq_aload_n hC 0 dX5_init_4 rfl rfl ?_
  refine gq_iconst hC (-1) dX5_init_5 (by decide) ?_
  refine gq_put1 hC (kf := 2) 0 ((q, .inr (5, [.int 0, .int 0, .int (-1), .null, .null, .int 0, .int 0])) :: []) tyX5 tyX5_ok nmX5 hin_X5 rfl rfl (by decide) (show Cond.fieldLink RX5 9 (TX5 2).1 (TX5 2).2.1 (TX5 2).2.2.1 ∈ wsX5_init from List.mem_of_getElem? (i := 4) rfl) rfl rfl rfl (by decide) dX5_init_6 rfl ?_
  refine gq_aload_n hC 0 dX5_init_9 rfl rfl ?_
  refine gq_newC hC hN (ci := 6) tyX6 (fun w h => List.mem_cons_of_mem _ (List.mem_append_left _ (List.mem_append_left _ (List.mem_append_left _ (List.mem_append_right _ h))))) tyX6_ok rfl (fun j hj => by rcases (show j = 0 ∨ j = 1 ∨ j = 2 ∨ j = 3 by omega) with rfl | rfl | rfl | rfl <;> rfl) ⟨(List.mem_of_getElem? (i := 5) rfl), (List.mem_of_getElem? (i := 6) rfl), (List.mem_of_getElem? (i := 7) rfl)⟩ (fun q9 => kc_X6 l D cI cJ cZ cO z q9) gX5_init_X6_init_n17 rfl ⟨rfl, rfl⟩ ⟨rfl, rfl⟩ (by decide +kernel) (List.mem_of_getElem? (i := 11) rfl) (Or.inl (hN.1 (RX5, 17, yX6_init) (by simp [gq_nl]))) ⟨Nat.le_of_ble_eq_true rfl, Nat.le_of_ble_eq_true rfl⟩ ⟨Nat.le_of_ble_eq_true rfl, Nat.le_of_ble_eq_true rfl⟩ (Nat.le_of_ble_eq_true rfl) dX5_init_10 dX5_init_13 dX5_init_14 (fun q1 W9 h9 => ?_)
  have hC := gq_at (k' := 17) (n' := 547) hC ⟨Nat.le_of_ble_eq_true rfl, Nat.le_of_ble_eq_true rfl⟩
  obtain ⟨a1, a1e, rfl⟩ := h9
  subst a1e
  refine gq_wld ((q, .inr (5, [.int 0, .int 0, .int (-1), .null, .null, .int 0, .int 0])) :: ([] ++ gq_shw cI cJ a1 gq_S0)) rfl ?_
  refine gq_putF hC (kf := 3) 0 ((q, .inr (5, [.int 0, .int 0, .int (-1), .ref (a1 0), .null, .int 0, .int 0])) :: ([] ++ gq_shw cI cJ a1 gq_S0)) hnm tyX5 tyX5_ok nmX5 hin_X5 rfl rfl (by decide) (show Cond.fieldLink RX5 18 (TX5 3).1 (TX5 3).2.1 (TX5 3).2.2.1 ∈ wsX5_init from List.mem_of_getElem? (i := 8) rfl) rfl rfl rfl rfl (by decide) dX5_init_17 rfl ?_
  refine gq_aload_n hC 0 dX5_init_20 rfl rfl ?_
  refine gq_sipush hC 900 dX5_init_21 (by decide) ?_
  refine gq_newI hC (N := 900) (t0 := 0) (List.mem_of_getElem? (i := 9) rfl) rfl (by decide) (by decide) (by decide) ⟨Nat.le_of_ble_eq_true rfl, Nat.le_of_ble_eq_true rfl⟩ dX5_init_24 (fun q2 => ?_)
  have hC := gq_at (k' := 18) (n' := 1447) hC ⟨Nat.le_of_ble_eq_true rfl, Nat.le_of_ble_eq_true rfl⟩
  refine gq_wld ((q, .inr (5, [.int 0, .int 0, .int (-1), .ref (a1 0), .null, .int 0, .int 0])) :: (([] ++ gq_shw cI cJ a1 gq_S0) ++ [(q2, .inl (cI, 900, .inl (fun _ => 0)))])) rfl ?_
  refine gq_putF hC (kf := 4) 0 ((q, .inr (5, [.int 0, .int 0, .int (-1), .ref (a1 0), .ref q2, .int 0, .int 0])) :: (([] ++ gq_shw cI cJ a1 gq_S0) ++ [(q2, .inl (cI, 900, .inl (fun _ => 0)))])) hnm tyX5 tyX5_ok nmX5 hin_X5 rfl rfl (by decide) (show Cond.fieldLink RX5 22 (TX5 4).1 (TX5 4).2.1 (TX5 4).2.2.1 ∈ wsX5_init from List.mem_of_getElem? (i := 10) rfl) rfl rfl rfl rfl (by decide) dX5_init_26 rfl ?_
  exact gq_cret hC (Nat.le_of_ble_eq_true rfl) (Nat.le_of_ble_eq_true rfl) ⟨a1, q2, rfl⟩ dX5_init_29
def PX0 (cI cJ cZ cO : ClassId) (q : Nat) (W : va_W) : Prop := ∃ q1 q2 q3 q4 q5 q6 q7 q8 q9 q10 : Nat, W = [(q, .inr (0, [.int 0, .int 0, .ref q1, .ref q2, .ref q3, .ref q4, .ref q5, .ref q6, .ref q7, .ref q8, .ref q9, .ref q10, .int 0, .int 0, .int 0])), (q1, .inl (cI, 31, .inl (fun _ => 0))), (q2, .inl (cI, 32, .inl (fun _ => 0))), (q3, .inl (cI, 32, .inl (fun _ => 0))), (q4, .inl (cI, 32, .inl (fun _ => 0))), (q5, .inl (cI, 32, .inl (fun _ => 0))), (q6, .inl (cI, 32, .inl (fun _ => 0))), (q7, .inl (cI, 33, .inl (fun _ => 0))), (q8, .inl (cJ, 33, .inr (.inl (fun _ => 0)))), (q9, .inl (cI, 24, .inl (fun _ => 0))), (q10, .inl (cI, 24, .inl (fun _ => 0)))]
set_option maxHeartbeats 4000000 in
set_option maxRecDepth 100000 in
theorem kc_X0 (l : Launch) (D : va_G) (cI cJ cZ cO : ClassId) (z : Nat → Nat) (q : Nat) : Cv l yX0_init wsX0_init (rmC 1 10 305) D (gq_ty cI cJ cZ cO) cI z [.ref q] [(q, .inr (0, [.int 0, .int 0, .null, .null, .null, .null, .null, .null, .null, .null, .null, .null, .int 0, .int 0, .int 0]))] (PX0 cI cJ cZ cO q) 10 305 := by
  refine Cv.of (cc := cX0_init) (maxL := 1) (by decide) rfl rfl (Nat.le_of_ble_eq_true rfl) ?_
  intro p e s m args below meth c A hC hN hnm
  have hin_X0 : ∀ w ∈ wsX00, w ∈ wsX0_init := fun w h => List.mem_cons_of_mem _ (List.mem_append_right _ h)
  refine gq_loc [(0, .ref q)] rfl ?_
  refine gq_aload_n hC 0 dX0_init_0 rfl rfl ?_
  refine gq_oinit hC (List.mem_of_getElem? (i := 1) rfl) (List.mem_of_getElem? (i := 2) rfl) (List.mem_of_getElem? (i := 3) rfl) dX0_init_1 ⟨Nat.le_of_ble_eq_true rfl, Nat.le_of_ble_eq_true rfl⟩ ?_
  refine gq_aload_n hC 0 dX0_init_4 rfl rfl ?_
  refine gq_bipush hC 31 dX0_init_5 (by decide) ?_
  refine gq_newI hC (N := 31) (t0 := 0) (List.mem_of_getElem? (i := 4) rfl) rfl (by decide) (by decide) (by decide) ⟨Nat.le_of_ble_eq_true rfl, Nat.le_of_ble_eq_true rfl⟩ dX0_init_7 (fun q1 => ?_)
  have hC := gq_at (k' := 1) (n' := 31) hC ⟨Nat.le_of_ble_eq_true rfl, Nat.le_of_ble_eq_true rfl⟩
  refine gq_wld ((q, .inr (0, [.int 0, .int 0, .null, .null, .null, .null, .null, .null, .null, .null, .null, .null, .int 0, .int 0, .int 0])) :: ([] ++ [(q1, .inl (cI, 31, .inl (fun _ => 0)))])) rfl ?_
  refine gq_putF hC (kf := 2) 0 ((q, .inr (0, [.int 0, .int 0, .ref q1, .null, .null, .null, .null, .null, .null, .null, .null, .null, .int 0, .int 0, .int 0])) :: ([] ++ [(q1, .inl (cI, 31, .inl (fun _ => 0)))])) hnm tyX0 tyX0_ok nmX0 hin_X0 rfl rfl (by decide) (show Cond.fieldLink RX0 9 (TX0 2).1 (TX0 2).2.1 (TX0 2).2.2.1 ∈ wsX0_init from List.mem_of_getElem? (i := 5) rfl) rfl rfl rfl rfl (by decide) dX0_init_9 rfl ?_
  refine gq_aload_n hC 0 dX0_init_12 rfl rfl ?_
  refine gq_bipush hC 32 dX0_init_13 (by decide) ?_
  refine gq_newI hC (N := 32) (t0 := 0) (List.mem_of_getElem? (i := 4) rfl) rfl (by decide) (by decide) (by decide) ⟨Nat.le_of_ble_eq_true rfl, Nat.le_of_ble_eq_true rfl⟩ dX0_init_15 (fun q2 => ?_)
  have hC := gq_at (k' := 2) (n' := 63) hC ⟨Nat.le_of_ble_eq_true rfl, Nat.le_of_ble_eq_true rfl⟩
  refine gq_wld ((q, .inr (0, [.int 0, .int 0, .ref q1, .null, .null, .null, .null, .null, .null, .null, .null, .null, .int 0, .int 0, .int 0])) :: (([] ++ [(q1, .inl (cI, 31, .inl (fun _ => 0)))]) ++ [(q2, .inl (cI, 32, .inl (fun _ => 0)))])) rfl ?_
  refine gq_putF hC (kf := 3) 0 ((q, .inr (0, [.int 0, .int 0, .ref q1, .ref q2, .null, .null, .null, .null, .null, .null, .null, .null, .int 0, .int 0, .int 0])) :: (([] ++ [(q1, .inl (cI, 31, .inl (fun _ => 0)))]) ++ [(q2, .inl (cI, 32, .inl (fun _ => 0)))])) hnm tyX0 tyX0_ok nmX0 hin_X0 rfl rfl (by decide) (show Cond.fieldLink RX0 15 (TX0 3).1 (TX0 3).2.1 (TX0 3).2.2.1 ∈ wsX0_init from List.mem_of_getElem? (i := 6) rfl) rfl rfl rfl rfl (by decide) dX0_init_17 rfl ?_
  refine gq_aload_n hC 0 dX0_init_20 rfl rfl ?_
  refine gq_bipush hC 32 dX0_init_21 (by decide) ?_
  refine gq_newI hC (N := 32) (t0 := 0) (List.mem_of_getElem? (i := 4) rfl) rfl (by decide) (by decide) (by decide) ⟨Nat.le_of_ble_eq_true rfl, Nat.le_of_ble_eq_true rfl⟩ dX0_init_23 (fun q3 => ?_)
  have hC := gq_at (k' := 3) (n' := 95) hC ⟨Nat.le_of_ble_eq_true rfl, Nat.le_of_ble_eq_true rfl⟩
  refine gq_wld ((q, .inr (0, [.int 0, .int 0, .ref q1, .ref q2, .null, .null, .null, .null, .null, .null, .null, .null, .int 0, .int 0, .int 0])) :: ((([] ++ [(q1, .inl (cI, 31, .inl (fun _ => 0)))]) ++ [(q2, .inl (cI, 32, .inl (fun _ => 0)))]) ++ [(q3, .inl (cI, 32, .inl (fun _ => 0)))])) rfl ?_
  refine gq_putF hC (kf := 4) 0 ((q, .inr (0, [.int 0, .int 0, .ref q1, .ref q2, .ref q3, .null, .null, .null, .null, .null, .null, .null, .int 0, .int 0, .int 0])) :: ((([] ++ [(q1, .inl (cI, 31, .inl (fun _ => 0)))]) ++ [(q2, .inl (cI, 32, .inl (fun _ => 0)))]) ++ [(q3, .inl (cI, 32, .inl (fun _ => 0)))])) hnm tyX0 tyX0_ok nmX0 hin_X0 rfl rfl (by decide) (show Cond.fieldLink RX0 18 (TX0 4).1 (TX0 4).2.1 (TX0 4).2.2.1 ∈ wsX0_init from List.mem_of_getElem? (i := 7) rfl) rfl rfl rfl rfl (by decide) dX0_init_25 rfl ?_
  refine gq_aload_n hC 0 dX0_init_28 rfl rfl ?_
  refine gq_bipush hC 32 dX0_init_29 (by decide) ?_
  refine gq_newI hC (N := 32) (t0 := 0) (List.mem_of_getElem? (i := 4) rfl) rfl (by decide) (by decide) (by decide) ⟨Nat.le_of_ble_eq_true rfl, Nat.le_of_ble_eq_true rfl⟩ dX0_init_31 (fun q4 => ?_)
  have hC := gq_at (k' := 4) (n' := 127) hC ⟨Nat.le_of_ble_eq_true rfl, Nat.le_of_ble_eq_true rfl⟩
  refine gq_wld ((q, .inr (0, [.int 0, .int 0, .ref q1, .ref q2, .ref q3, .null, .null, .null, .null, .null, .null, .null, .int 0, .int 0, .int 0])) :: (((([] ++ [(q1, .inl (cI, 31, .inl (fun _ => 0)))]) ++ [(q2, .inl (cI, 32, .inl (fun _ => 0)))]) ++ [(q3, .inl (cI, 32, .inl (fun _ => 0)))]) ++ [(q4, .inl (cI, 32, .inl (fun _ => 0)))])) rfl ?_
  refine gq_putF hC (kf := 5) 0 ((q, .inr (0, [.int 0, .int 0, .ref q1, .ref q2, .ref q3, .ref q4, .null, .null, .null, .null, .null, .null, .int 0, .int 0, .int 0])) :: (((([] ++ [(q1, .inl (cI, 31, .inl (fun _ => 0)))]) ++ [(q2, .inl (cI, 32, .inl (fun _ => 0)))]) ++ [(q3, .inl (cI, 32, .inl (fun _ => 0)))]) ++ [(q4, .inl (cI, 32, .inl (fun _ => 0)))])) hnm tyX0 tyX0_ok nmX0 hin_X0 rfl rfl (by decide) (show Cond.fieldLink RX0 21 (TX0 5).1 (TX0 5).2.1 (TX0 5).2.2.1 ∈ wsX0_init from List.mem_of_getElem? (i := 8) rfl) rfl rfl rfl rfl (by decide) dX0_init_33 rfl ?_
  refine gq_aload_n hC 0 dX0_init_36 rfl rfl ?_
  refine gq_bipush hC 32 dX0_init_37 (by decide) ?_
  refine gq_newI hC (N := 32) (t0 := 0) (List.mem_of_getElem? (i := 4) rfl) rfl (by decide) (by decide) (by decide) ⟨Nat.le_of_ble_eq_true rfl, Nat.le_of_ble_eq_true rfl⟩ dX0_init_39 (fun q5 => ?_)
  have hC := gq_at (k' := 5) (n' := 159) hC ⟨Nat.le_of_ble_eq_true rfl, Nat.le_of_ble_eq_true rfl⟩
  refine gq_wld ((q, .inr (0, [.int 0, .int 0, .ref q1, .ref q2, .ref q3, .ref q4, .null, .null, .null, .null, .null, .null, .int 0, .int 0, .int 0])) :: ((((([] ++ [(q1, .inl (cI, 31, .inl (fun _ => 0)))]) ++ [(q2, .inl (cI, 32, .inl (fun _ => 0)))]) ++ [(q3, .inl (cI, 32, .inl (fun _ => 0)))]) ++ [(q4, .inl (cI, 32, .inl (fun _ => 0)))]) ++ [(q5, .inl (cI, 32, .inl (fun _ => 0)))])) rfl ?_
  refine gq_putF hC (kf := 6) 0 ((q, .inr (0, [.int 0, .int 0, .ref q1, .ref q2, .ref q3, .ref q4, .ref q5, .null, .null, .null, .null, .null, .int 0, .int 0, .int 0])) :: ((((([] ++ [(q1, .inl (cI, 31, .inl (fun _ => 0)))]) ++ [(q2, .inl (cI, 32, .inl (fun _ => 0)))]) ++ [(q3, .inl (cI, 32, .inl (fun _ => 0)))]) ++ [(q4, .inl (cI, 32, .inl (fun _ => 0)))]) ++ [(q5, .inl (cI, 32, .inl (fun _ => 0)))])) hnm tyX0 tyX0_ok nmX0 hin_X0 rfl rfl (by decide) (show Cond.fieldLink RX0 24 (TX0 6).1 (TX0 6).2.1 (TX0 6).2.2.1 ∈ wsX0_init from List.mem_of_getElem? (i := 9) rfl) rfl rfl rfl rfl (by decide) dX0_init_41 rfl ?_
  refine gq_aload_n hC 0 dX0_init_44 rfl rfl ?_
  refine gq_bipush hC 32 dX0_init_45 (by decide) ?_
  refine gq_newI hC (N := 32) (t0 := 0) (List.mem_of_getElem? (i := 4) rfl) rfl (by decide) (by decide) (by decide) ⟨Nat.le_of_ble_eq_true rfl, Nat.le_of_ble_eq_true rfl⟩ dX0_init_47 (fun q6 => ?_)
  have hC := gq_at (k' := 6) (n' := 191) hC ⟨Nat.le_of_ble_eq_true rfl, Nat.le_of_ble_eq_true rfl⟩
  refine gq_wld ((q, .inr (0, [.int 0, .int 0, .ref q1, .ref q2, .ref q3, .ref q4, .ref q5, .null, .null, .null, .null, .null, .int 0, .int 0, .int 0])) :: (((((([] ++ [(q1, .inl (cI, 31, .inl (fun _ => 0)))]) ++ [(q2, .inl (cI, 32, .inl (fun _ => 0)))]) ++ [(q3, .inl (cI, 32, .inl (fun _ => 0)))]) ++ [(q4, .inl (cI, 32, .inl (fun _ => 0)))]) ++ [(q5, .inl (cI, 32, .inl (fun _ => 0)))]) ++ [(q6, .inl (cI, 32, .inl (fun _ => 0)))])) rfl ?_
  refine gq_putF hC (kf := 7) 0 ((q, .inr (0, [.int 0, .int 0, .ref q1, .ref q2, .ref q3, .ref q4, .ref q5, .ref q6, .null, .null, .null, .null, .int 0, .int 0, .int 0])) :: (((((([] ++ [(q1, .inl (cI, 31, .inl (fun _ => 0)))]) ++ [(q2, .inl (cI, 32, .inl (fun _ => 0)))]) ++ [(q3, .inl (cI, 32, .inl (fun _ => 0)))]) ++ [(q4, .inl (cI, 32, .inl (fun _ => 0)))]) ++ [(q5, .inl (cI, 32, .inl (fun _ => 0)))]) ++ [(q6, .inl (cI, 32, .inl (fun _ => 0)))])) hnm tyX0 tyX0_ok nmX0 hin_X0 rfl rfl (by decide) (show Cond.fieldLink RX0 27 (TX0 7).1 (TX0 7).2.1 (TX0 7).2.2.1 ∈ wsX0_init from List.mem_of_getElem? (i := 10) rfl) rfl rfl rfl rfl (by decide) dX0_init_49 rfl ?_
  refine gq_aload_n hC 0 dX0_init_52 rfl rfl ?_
  refine gq_bipush hC 33 dX0_init_53 (by decide) ?_
  refine gq_newI hC (N := 33) (t0 := 0) (List.mem_of_getElem? (i := 4) rfl) rfl (by decide) (by decide) (by decide) ⟨Nat.le_of_ble_eq_true rfl, Nat.le_of_ble_eq_true rfl⟩ dX0_init_55 (fun q7 => ?_)
  have hC := gq_at (k' := 7) (n' := 224) hC ⟨Nat.le_of_ble_eq_true rfl, Nat.le_of_ble_eq_true rfl⟩
  refine gq_wld ((q, .inr (0, [.int 0, .int 0, .ref q1, .ref q2, .ref q3, .ref q4, .ref q5, .ref q6, .null, .null, .null, .null, .int 0, .int 0, .int 0])) :: ((((((([] ++ [(q1, .inl (cI, 31, .inl (fun _ => 0)))]) ++ [(q2, .inl (cI, 32, .inl (fun _ => 0)))]) ++ [(q3, .inl (cI, 32, .inl (fun _ => 0)))]) ++ [(q4, .inl (cI, 32, .inl (fun _ => 0)))]) ++ [(q5, .inl (cI, 32, .inl (fun _ => 0)))]) ++ [(q6, .inl (cI, 32, .inl (fun _ => 0)))]) ++ [(q7, .inl (cI, 33, .inl (fun _ => 0)))])) rfl ?_
  refine gq_putF hC (kf := 8) 0 ((q, .inr (0, [.int 0, .int 0, .ref q1, .ref q2, .ref q3, .ref q4, .ref q5, .ref q6, .ref q7, .null, .null, .null, .int 0, .int 0, .int 0])) :: ((((((([] ++ [(q1, .inl (cI, 31, .inl (fun _ => 0)))]) ++ [(q2, .inl (cI, 32, .inl (fun _ => 0)))]) ++ [(q3, .inl (cI, 32, .inl (fun _ => 0)))]) ++ [(q4, .inl (cI, 32, .inl (fun _ => 0)))]) ++ [(q5, .inl (cI, 32, .inl (fun _ => 0)))]) ++ [(q6, .inl (cI, 32, .inl (fun _ => 0)))]) ++ [(q7, .inl (cI, 33, .inl (fun _ => 0)))])) hnm tyX0 tyX0_ok nmX0 hin_X0 rfl rfl (by decide) (show Cond.fieldLink RX0 30 (TX0 8).1 (TX0 8).2.1 (TX0 8).2.2.1 ∈ wsX0_init from List.mem_of_getElem? (i := 11) rfl) rfl rfl rfl rfl (by decide) dX0_init_57 rfl ?_
  refine gq_aload_n hC 0 dX0_init_60 rfl rfl ?_
  refine gq_bipush hC 33 dX0_init_61 (by decide) ?_
  refine gq_newJ hC (N := 33) (t0 := 1) (List.mem_of_getElem? (i := 12) rfl) rfl (by decide) (by decide) (by decide) ⟨Nat.le_of_ble_eq_true rfl, Nat.le_of_ble_eq_true rfl⟩ dX0_init_63 (fun q8 => ?_)
  have hC := gq_at (k' := 8) (n' := 257) hC ⟨Nat.le_of_ble_eq_true rfl, Nat.le_of_ble_eq_true rfl⟩
  refine gq_wld ((q, .inr (0, [.int 0, .int 0, .ref q1, .ref q2, .ref q3, .ref q4, .ref q5, .ref q6, .ref q7, .null, .null, .null, .int 0, .int 0, .int 0])) :: (((((((([] ++ [(q1, .inl (cI, 31, .inl (fun _ => 0)))]) ++ [(q2, .inl (cI, 32, .inl (fun _ => 0)))]) ++ [(q3, .inl (cI, 32, .inl (fun _ => 0)))]) ++ [(q4, .inl (cI, 32, .inl (fun _ => 0)))]) ++ [(q5, .inl (cI, 32, .inl (fun _ => 0)))]) ++ [(q6, .inl (cI, 32, .inl (fun _ => 0)))]) ++ [(q7, .inl (cI, 33, .inl (fun _ => 0)))]) ++ [(q8, .inl (cJ, 33, .inr (.inl (fun _ => 0))))])) rfl ?_
  refine gq_putF hC (kf := 9) 0 ((q, .inr (0, [.int 0, .int 0, .ref q1, .ref q2, .ref q3, .ref q4, .ref q5, .ref q6, .ref q7, .ref q8, .null, .null, .int 0, .int 0, .int 0])) :: (((((((([] ++ [(q1, .inl (cI, 31, .inl (fun _ => 0)))]) ++ [(q2, .inl (cI, 32, .inl (fun _ => 0)))]) ++ [(q3, .inl (cI, 32, .inl (fun _ => 0)))]) ++ [(q4, .inl (cI, 32, .inl (fun _ => 0)))]) ++ [(q5, .inl (cI, 32, .inl (fun _ => 0)))]) ++ [(q6, .inl (cI, 32, .inl (fun _ => 0)))]) ++ [(q7, .inl (cI, 33, .inl (fun _ => 0)))]) ++ [(q8, .inl (cJ, 33, .inr (.inl (fun _ => 0))))])) hnm tyX0 tyX0_ok nmX0 hin_X0 rfl rfl (by decide) (show Cond.fieldLink RX0 33 (TX0 9).1 (TX0 9).2.1 (TX0 9).2.2.1 ∈ wsX0_init from List.mem_of_getElem? (i := 13) rfl) rfl rfl rfl rfl (by decide) dX0_init_65 rfl ?_
  refine gq_aload_n hC 0 dX0_init_68 rfl rfl ?_
  refine gq_bipush hC 24 dX0_init_69 (by decide) ?_
  refine gq_newI hC (N := 24) (t0 := 0) (List.mem_of_getElem? (i := 4) rfl) rfl (by decide) (by decide) (by decide) ⟨Nat.le_of_ble_eq_true rfl, Nat.le_of_ble_eq_true rfl⟩ dX0_init_71 (fun q9 => ?_)
  have hC := gq_at (k' := 9) (n' := 281) hC ⟨Nat.le_of_ble_eq_true rfl, Nat.le_of_ble_eq_true rfl⟩
  refine gq_wld ((q, .inr (0, [.int 0, .int 0, .ref q1, .ref q2, .ref q3, .ref q4, .ref q5, .ref q6, .ref q7, .ref q8, .null, .null, .int 0, .int 0, .int 0])) :: ((((((((([] ++ [(q1, .inl (cI, 31, .inl (fun _ => 0)))]) ++ [(q2, .inl (cI, 32, .inl (fun _ => 0)))]) ++ [(q3, .inl (cI, 32, .inl (fun _ => 0)))]) ++ [(q4, .inl (cI, 32, .inl (fun _ => 0)))]) ++ [(q5, .inl (cI, 32, .inl (fun _ => 0)))]) ++ [(q6, .inl (cI, 32, .inl (fun _ => 0)))]) ++ [(q7, .inl (cI, 33, .inl (fun _ => 0)))]) ++ [(q8, .inl (cJ, 33, .inr (.inl (fun _ => 0))))]) ++ [(q9, .inl (cI, 24, .inl (fun _ => 0)))])) rfl ?_
  refine gq_putF hC (kf := 10) 0 ((q, .inr (0, [.int 0, .int 0, .ref q1, .ref q2, .ref q3, .ref q4, .ref q5, .ref q6, .ref q7, .ref q8, .ref q9, .null, .int 0, .int 0, .int 0])) :: ((((((((([] ++ [(q1, .inl (cI, 31, .inl (fun _ => 0)))]) ++ [(q2, .inl (cI, 32, .inl (fun _ => 0)))]) ++ [(q3, .inl (cI, 32, .inl (fun _ => 0)))]) ++ [(q4, .inl (cI, 32, .inl (fun _ => 0)))]) ++ [(q5, .inl (cI, 32, .inl (fun _ => 0)))]) ++ [(q6, .inl (cI, 32, .inl (fun _ => 0)))]) ++ [(q7, .inl (cI, 33, .inl (fun _ => 0)))]) ++ [(q8, .inl (cJ, 33, .inr (.inl (fun _ => 0))))]) ++ [(q9, .inl (cI, 24, .inl (fun _ => 0)))])) hnm tyX0 tyX0_ok nmX0 hin_X0 rfl rfl (by decide) (show Cond.fieldLink RX0 37 (TX0 10).1 (TX0 10).2.1 (TX0 10).2.2.1 ∈ wsX0_init from List.mem_of_getElem? (i := 14) rfl) rfl rfl rfl rfl (by decide) dX0_init_73 rfl ?_
  refine gq_aload_n hC 0 dX0_init_76 rfl rfl ?_
  refine gq_bipush hC 24 dX0_init_77 (by decide) ?_
  refine gq_newI hC (N := 24) (t0 := 0) (List.mem_of_getElem? (i := 4) rfl) rfl (by decide) (by decide) (by decide) ⟨Nat.le_of_ble_eq_true rfl, Nat.le_of_ble_eq_true rfl⟩ dX0_init_79 (fun q10 => ?_)
  have hC := gq_at (k' := 10) (n' := 305) hC ⟨Nat.le_of_ble_eq_true rfl, Nat.le_of_ble_eq_true rfl⟩
  refine gq_wld ((q, .inr (0, [.int 0, .int 0, .ref q1, .ref q2, .ref q3, .ref q4, .ref q5, .ref q6, .ref q7, .ref q8, .ref q9, .null, .int 0, .int 0, .int 0])) :: (((((((((([] ++ [(q1, .inl (cI, 31, .inl (fun _ => 0)))]) ++ [(q2, .inl (cI, 32, .inl (fun _ => 0)))]) ++ [(q3, .inl (cI, 32, .inl (fun _ => 0)))]) ++ [(q4, .inl (cI, 32, .inl (fun _ => 0)))]) ++ [(q5, .inl (cI, 32, .inl (fun _ => 0)))]) ++ [(q6, .inl (cI, 32, .inl (fun _ => 0)))]) ++ [(q7, .inl (cI, 33, .inl (fun _ => 0)))]) ++ [(q8, .inl (cJ, 33, .inr (.inl (fun _ => 0))))]) ++ [(q9, .inl (cI, 24, .inl (fun _ => 0)))]) ++ [(q10, .inl (cI, 24, .inl (fun _ => 0)))])) rfl ?_
  refine gq_putF hC (kf := 11) 0 ((q, .inr (0, [.int 0, .int 0, .ref q1, .ref q2, .ref q3, .ref q4, .ref q5, .ref q6, .ref q7, .ref q8, .ref q9, .ref q10, .int 0, .int 0, .int 0])) :: (((((((((([] ++ [(q1, .inl (cI, 31, .inl (fun _ => 0)))]) ++ [(q2, .inl (cI, 32, .inl (fun _ => 0)))]) ++ [(q3, .inl (cI, 32, .inl (fun _ => 0)))]) ++ [(q4, .inl (cI, 32, .inl (fun _ => 0)))]) ++ [(q5, .inl (cI, 32, .inl (fun _ => 0)))]) ++ [(q6, .inl (cI, 32, .inl (fun _ => 0)))]) ++ [(q7, .inl (cI, 33, .inl (fun _ => 0)))]) ++ [(q8, .inl (cJ, 33, .inr (.inl (fun _ => 0))))]) ++ [(q9, .inl (cI, 24, .inl (fun _ => 0)))]) ++ [(q10, .inl (cI, 24, .inl (fun _ => 0)))])) hnm tyX0 tyX0_ok nmX0 hin_X0 rfl rfl (by decide) (show Cond.fieldLink RX0 40 (TX0 11).1 (TX0 11).2.1 (TX0 11).2.2.1 ∈ wsX0_init from List.mem_of_getElem? (i := 15) rfl) rfl rfl rfl rfl (by decide) dX0_init_81 rfl ?_
  exact gq_cret hC (Nat.le_of_ble_eq_true rfl) (Nat.le_of_ble_eq_true rfl) ⟨q1, q2, q3, q4, q5, q6, q7, q8, q9, q10, rfl⟩ dX0_init_84
def PX4 (cI cJ cZ cO : ClassId) (q : Nat) (W : va_W) : Prop := ∃ q1 q2 q3 q4 : Nat, W = [(q, .inr (4, [.int 0, .ref q1, .ref q2, .ref q3, .ref q4, .int 0])), (q1, .inl (cI, 5, .inl (fun _ => 0))), (q2, .inl (cI, 155, .inl (fun _ => 0))), (q3, .inl (cI, 31, .inl (fun _ => 0))), (q4, .inl (cZ, 31, .inl (fun _ => 0)))]
set_option maxHeartbeats 4000000 in
set_option maxRecDepth 100000 in
theorem kc_X4 (l : Launch) (D : va_G) (cI cJ cZ cO : ClassId) (z : Nat → Nat) (q : Nat) : Cv l yX4_init wsX4_init (rmC 1 4 222) D (gq_ty cI cJ cZ cO) cI z [.ref q] [(q, .inr (4, [.int 0, .null, .null, .null, .null, .int 0]))] (PX4 cI cJ cZ cO q) 4 222 := by
  refine Cv.of (cc := cX4_init) (maxL := 1) (by decide) rfl rfl (Nat.le_of_ble_eq_true rfl) ?_
  intro p e s m args below meth c A hC hN hnm
  have hin_X4 : ∀ w ∈ wsX40, w ∈ wsX4_init := fun w h => List.mem_cons_of_mem _ (List.mem_append_right _ h)
  refine gq_loc [(0, .ref q)] rfl ?_
  refine gq_aload_n hC 0 dX4_init_0 rfl rfl ?_
  refine gq_oinit hC (List.mem_of_getElem? (i := 1) rfl) (List.mem_of_getElem? (i := 2) rfl) (List.mem_of_getElem? (i := 3) rfl) dX4_init_1 ⟨Nat.le_of_ble_eq_true rfl, Nat.le_of_ble_eq_true rfl⟩ ?_
  refine gq_aload_n hC 0 dX4_init_4 rfl rfl ?_
  refine gq_iconst hC 5 dX4_init_5 (by decide) ?_
  refine gq_newI hC (N := 5) (t0 := 0) (List.mem_of_getElem? (i := 4) rfl) rfl (by decide) (by decide) (by decide) ⟨Nat.le_of_ble_eq_true rfl, Nat.le_of_ble_eq_true rfl⟩ dX4_init_6 (fun q1 => ?_)
  have hC := gq_at (k' := 1) (n' := 5) hC ⟨Nat.le_of_ble_eq_true rfl, Nat.le_of_ble_eq_true rfl⟩
  refine gq_wld ((q, .inr (4, [.int 0, .null, .null, .null, .null, .int 0])) :: ([] ++ [(q1, .inl (cI, 5, .inl (fun _ => 0)))])) rfl ?_
  refine gq_putF hC (kf := 1) 0 ((q, .inr (4, [.int 0, .ref q1, .null, .null, .null, .int 0])) :: ([] ++ [(q1, .inl (cI, 5, .inl (fun _ => 0)))])) hnm tyX4 tyX4_ok nmX4 hin_X4 rfl rfl (by decide) (show Cond.fieldLink RX4 9 (TX4 1).1 (TX4 1).2.1 (TX4 1).2.2.1 ∈ wsX4_init from List.mem_of_getElem? (i := 5) rfl) rfl rfl rfl rfl (by decide) dX4_init_8 rfl ?_
  refine gq_aload_n hC 0 dX4_init_11 rfl rfl ?_
  refine gq_sipush hC 155 dX4_init_12 (by decide) ?_
  refine gq_newI hC (N := 155) (t0 := 0) (List.mem_of_getElem? (i := 4) rfl) rfl (by decide) (by decide) (by decide) ⟨Nat.le_of_ble_eq_true rfl, Nat.le_of_ble_eq_true rfl⟩ dX4_init_15 (fun q2 => ?_)
  have hC := gq_at (k' := 2) (n' := 160) hC ⟨Nat.le_of_ble_eq_true rfl, Nat.le_of_ble_eq_true rfl⟩
  refine gq_wld ((q, .inr (4, [.int 0, .ref q1, .null, .null, .null, .int 0])) :: (([] ++ [(q1, .inl (cI, 5, .inl (fun _ => 0)))]) ++ [(q2, .inl (cI, 155, .inl (fun _ => 0)))])) rfl ?_
  refine gq_putF hC (kf := 2) 0 ((q, .inr (4, [.int 0, .ref q1, .ref q2, .null, .null, .int 0])) :: (([] ++ [(q1, .inl (cI, 5, .inl (fun _ => 0)))]) ++ [(q2, .inl (cI, 155, .inl (fun _ => 0)))])) hnm tyX4 tyX4_ok nmX4 hin_X4 rfl rfl (by decide) (show Cond.fieldLink RX4 15 (TX4 2).1 (TX4 2).2.1 (TX4 2).2.2.1 ∈ wsX4_init from List.mem_of_getElem? (i := 6) rfl) rfl rfl rfl rfl (by decide) dX4_init_17 rfl ?_
  refine gq_aload_n hC 0 dX4_init_20 rfl rfl ?_
  refine gq_bipush hC 31 dX4_init_21 (by decide) ?_
  refine gq_newI hC (N := 31) (t0 := 0) (List.mem_of_getElem? (i := 4) rfl) rfl (by decide) (by decide) (by decide) ⟨Nat.le_of_ble_eq_true rfl, Nat.le_of_ble_eq_true rfl⟩ dX4_init_23 (fun q3 => ?_)
  have hC := gq_at (k' := 3) (n' := 191) hC ⟨Nat.le_of_ble_eq_true rfl, Nat.le_of_ble_eq_true rfl⟩
  refine gq_wld ((q, .inr (4, [.int 0, .ref q1, .ref q2, .null, .null, .int 0])) :: ((([] ++ [(q1, .inl (cI, 5, .inl (fun _ => 0)))]) ++ [(q2, .inl (cI, 155, .inl (fun _ => 0)))]) ++ [(q3, .inl (cI, 31, .inl (fun _ => 0)))])) rfl ?_
  refine gq_putF hC (kf := 3) 0 ((q, .inr (4, [.int 0, .ref q1, .ref q2, .ref q3, .null, .int 0])) :: ((([] ++ [(q1, .inl (cI, 5, .inl (fun _ => 0)))]) ++ [(q2, .inl (cI, 155, .inl (fun _ => 0)))]) ++ [(q3, .inl (cI, 31, .inl (fun _ => 0)))])) hnm tyX4 tyX4_ok nmX4 hin_X4 rfl rfl (by decide) (show Cond.fieldLink RX4 18 (TX4 3).1 (TX4 3).2.1 (TX4 3).2.2.1 ∈ wsX4_init from List.mem_of_getElem? (i := 7) rfl) rfl rfl rfl rfl (by decide) dX4_init_25 rfl ?_
  refine gq_aload_n hC 0 dX4_init_28 rfl rfl ?_
  refine gq_bipush hC 31 dX4_init_29 (by decide) ?_
  refine gq_newZ hC (N := 31) (t0 := 2) (List.mem_of_getElem? (i := 8) rfl) rfl (by decide) (by decide) (by decide) ⟨Nat.le_of_ble_eq_true rfl, Nat.le_of_ble_eq_true rfl⟩ dX4_init_31 (fun q4 => ?_)
  have hC := gq_at (k' := 4) (n' := 222) hC ⟨Nat.le_of_ble_eq_true rfl, Nat.le_of_ble_eq_true rfl⟩
  refine gq_wld ((q, .inr (4, [.int 0, .ref q1, .ref q2, .ref q3, .null, .int 0])) :: (((([] ++ [(q1, .inl (cI, 5, .inl (fun _ => 0)))]) ++ [(q2, .inl (cI, 155, .inl (fun _ => 0)))]) ++ [(q3, .inl (cI, 31, .inl (fun _ => 0)))]) ++ [(q4, .inl (cZ, 31, .inl (fun _ => 0)))])) rfl ?_
  refine gq_putF hC (kf := 4) 0 ((q, .inr (4, [.int 0, .ref q1, .ref q2, .ref q3, .ref q4, .int 0])) :: (((([] ++ [(q1, .inl (cI, 5, .inl (fun _ => 0)))]) ++ [(q2, .inl (cI, 155, .inl (fun _ => 0)))]) ++ [(q3, .inl (cI, 31, .inl (fun _ => 0)))]) ++ [(q4, .inl (cZ, 31, .inl (fun _ => 0)))])) hnm tyX4 tyX4_ok nmX4 hin_X4 rfl rfl (by decide) (show Cond.fieldLink RX4 21 (TX4 4).1 (TX4 4).2.1 (TX4 4).2.2.1 ∈ wsX4_init from List.mem_of_getElem? (i := 9) rfl) rfl rfl rfl rfl (by decide) dX4_init_33 rfl ?_
  exact gq_cret hC (Nat.le_of_ble_eq_true rfl) (Nat.le_of_ble_eq_true rfl) ⟨q1, q2, q3, q4, rfl⟩ dX4_init_36
def PX8 (cI cJ cZ cO : ClassId) (q : Nat) (W : va_W) : Prop := ∃ q1 q2 : Nat, W = [(q, .inr (8, [.ref q1, .ref q2])), (q1, .inl (cI, 24, .inl (fun _ => 0))), (q2, .inl (cI, 768, .inl (fun _ => 0)))]
set_option maxHeartbeats 4000000 in
set_option maxRecDepth 100000 in
theorem kc_X8 (l : Launch) (D : va_G) (cI cJ cZ cO : ClassId) (z : Nat → Nat) (q : Nat) : Cv l yX8_init wsX8_init (rmC 1 2 792) D (gq_ty cI cJ cZ cO) cI z [.ref q] [(q, .inr (8, [.null, .null]))] (PX8 cI cJ cZ cO q) 2 792 := by
  refine Cv.of (cc := cX8_init) (maxL := 1) (by decide) rfl rfl (Nat.le_of_ble_eq_true rfl) ?_
  intro p e s m args below meth c A hC hN hnm
  have hin_X8 : ∀ w ∈ wsX80, w ∈ wsX8_init := fun w h => List.mem_cons_of_mem _ (List.mem_append_right _ h)
  refine gq_loc [(0, .ref q)] rfl ?_
  refine gq_aload_n hC 0 dX8_init_0 rfl rfl ?_
  refine gq_oinit hC (List.mem_of_getElem? (i := 1) rfl) (List.mem_of_getElem? (i := 2) rfl) (List.mem_of_getElem? (i := 3) rfl) dX8_init_1 ⟨Nat.le_of_ble_eq_true rfl, Nat.le_of_ble_eq_true rfl⟩ ?_
  refine gq_aload_n hC 0 dX8_init_4 rfl rfl ?_
  refine gq_bipush hC 24 dX8_init_5 (by decide) ?_
  refine gq_newI hC (N := 24) (t0 := 0) (List.mem_of_getElem? (i := 4) rfl) rfl (by decide) (by decide) (by decide) ⟨Nat.le_of_ble_eq_true rfl, Nat.le_of_ble_eq_true rfl⟩ dX8_init_7 (fun q1 => ?_)
  have hC := gq_at (k' := 1) (n' := 24) hC ⟨Nat.le_of_ble_eq_true rfl, Nat.le_of_ble_eq_true rfl⟩
  refine gq_wld ((q, .inr (8, [.null, .null])) :: ([] ++ [(q1, .inl (cI, 24, .inl (fun _ => 0)))])) rfl ?_
  refine gq_putF hC (kf := 0) 0 ((q, .inr (8, [.ref q1, .null])) :: ([] ++ [(q1, .inl (cI, 24, .inl (fun _ => 0)))])) hnm tyX8 tyX8_ok nmX8 hin_X8 rfl rfl (by decide) (show Cond.fieldLink RX8 9 (TX8 0).1 (TX8 0).2.1 (TX8 0).2.2.1 ∈ wsX8_init from List.mem_of_getElem? (i := 5) rfl) rfl rfl rfl rfl (by decide) dX8_init_9 rfl ?_
  refine gq_aload_n hC 0 dX8_init_12 rfl rfl ?_
  refine gq_sipush hC 768 dX8_init_13 (by decide) ?_
  refine gq_newI hC (N := 768) (t0 := 0) (List.mem_of_getElem? (i := 4) rfl) rfl (by decide) (by decide) (by decide) ⟨Nat.le_of_ble_eq_true rfl, Nat.le_of_ble_eq_true rfl⟩ dX8_init_16 (fun q2 => ?_)
  have hC := gq_at (k' := 2) (n' := 792) hC ⟨Nat.le_of_ble_eq_true rfl, Nat.le_of_ble_eq_true rfl⟩
  refine gq_wld ((q, .inr (8, [.ref q1, .null])) :: (([] ++ [(q1, .inl (cI, 24, .inl (fun _ => 0)))]) ++ [(q2, .inl (cI, 768, .inl (fun _ => 0)))])) rfl ?_
  refine gq_putF hC (kf := 1) 0 ((q, .inr (8, [.ref q1, .ref q2])) :: (([] ++ [(q1, .inl (cI, 24, .inl (fun _ => 0)))]) ++ [(q2, .inl (cI, 768, .inl (fun _ => 0)))])) hnm tyX8 tyX8_ok nmX8 hin_X8 rfl rfl (by decide) (show Cond.fieldLink RX8 15 (TX8 1).1 (TX8 1).2.1 (TX8 1).2.2.1 ∈ wsX8_init from List.mem_of_getElem? (i := 6) rfl) rfl rfl rfl rfl (by decide) dX8_init_18 rfl ?_
  exact gq_cret hC (Nat.le_of_ble_eq_true rfl) (Nat.le_of_ble_eq_true rfl) ⟨q1, q2, rfl⟩ dX8_init_21
def PX3 (cI cJ cZ cO : ClassId) (q : Nat) (W : va_W) : Prop := ∃ q1 : Nat, W = [(q, .inr (3, [.int 0, .ref q1])), (q1, .inl (cI, 1056, .inl (fun _ => 0)))]
set_option maxHeartbeats 4000000 in
set_option maxRecDepth 100000 in
theorem kc_X3 (l : Launch) (D : va_G) (cI cJ cZ cO : ClassId) (z : Nat → Nat) (q : Nat) : Cv l yX3_init wsX3_init (rmC 1 1 1056) D (gq_ty cI cJ cZ cO) cI z [.ref q] [(q, .inr (3, [.int 0, .null]))] (PX3 cI cJ cZ cO q) 1 1056 := by
  refine Cv.of (cc := cX3_init) (maxL := 1) (by decide) rfl rfl (Nat.le_of_ble_eq_true rfl) ?_
  intro p e s m args below meth c A hC hN hnm
  have hin_X3 : ∀ w ∈ wsX30, w ∈ wsX3_init := fun w h => List.mem_cons_of_mem _ (List.mem_append_right _ h)
  refine gq_loc [(0, .ref q)] rfl ?_
  refine gq_aload_n hC 0 dX3_init_0 rfl rfl ?_
  refine gq_oinit hC (List.mem_of_getElem? (i := 1) rfl) (List.mem_of_getElem? (i := 2) rfl) (List.mem_of_getElem? (i := 3) rfl) dX3_init_1 ⟨Nat.le_of_ble_eq_true rfl, Nat.le_of_ble_eq_true rfl⟩ ?_
  refine gq_aload_n hC 0 dX3_init_4 rfl rfl ?_
  refine gq_sipush hC 1056 dX3_init_5 (by decide) ?_
  refine gq_newI hC (N := 1056) (t0 := 0) (List.mem_of_getElem? (i := 4) rfl) rfl (by decide) (by decide) (by decide) ⟨Nat.le_of_ble_eq_true rfl, Nat.le_of_ble_eq_true rfl⟩ dX3_init_8 (fun q1 => ?_)
  have hC := gq_at (k' := 1) (n' := 1056) hC ⟨Nat.le_of_ble_eq_true rfl, Nat.le_of_ble_eq_true rfl⟩
  refine gq_wld ((q, .inr (3, [.int 0, .null])) :: ([] ++ [(q1, .inl (cI, 1056, .inl (fun _ => 0)))])) rfl ?_
  refine gq_putF hC (kf := 1) 0 ((q, .inr (3, [.int 0, .ref q1])) :: ([] ++ [(q1, .inl (cI, 1056, .inl (fun _ => 0)))])) hnm tyX3 tyX3_ok nmX3 hin_X3 rfl rfl (by decide) (show Cond.fieldLink RX3 9 (TX3 1).1 (TX3 1).2.1 (TX3 1).2.2.1 ∈ wsX3_init from List.mem_of_getElem? (i := 5) rfl) rfl rfl rfl rfl (by decide) dX3_init_10 rfl ?_
  exact gq_cret hC (Nat.le_of_ble_eq_true rfl) (Nat.le_of_ble_eq_true rfl) ⟨q1, rfl⟩ dX3_init_13
def PX1 (cI cJ cZ cO : ClassId) (q : Nat) (W : va_W) : Prop := ∃ (qa : Nat) (hh : Nat → Nat), W = (q, .inr (1, [.int 0, .int 0, .ref qa])) :: (qa, .inl (cO, 8, .inr (.inr (.inr (.inr (fun j => some (hh (17 * j)))))))) :: gq_hist cI cJ hh (fun _ => gq_S0)
set_option maxHeartbeats 4000000 in
set_option maxRecDepth 100000 in
theorem kc_X1 (l : Launch) (D : va_G) (cI cJ cZ cO : ClassId) (z : Nat → Nat) (q : Nat) : Cv l yX1_init wsX1_init (rmC 3 137 4384) D (gq_ty cI cJ cZ cO) cI z [.ref q] [(q, .inr (1, [.int 0, .int 0, .null]))] (PX1 cI cJ cZ cO q) 137 4384 := by
  refine Cv.of (cc := cX1_init) (maxL := 2) (by decide) rfl rfl (Nat.le_of_ble_eq_true rfl) ?_
  intro p e s m args below meth c A hC hN hnm
  have hin_X1 : ∀ w ∈ wsX10, w ∈ wsX1_init := fun w h => List.mem_cons_of_mem _ (List.mem_append_left _ (List.mem_append_left _ (List.mem_append_left _ (List.mem_append_left _ (List.mem_append_right _ h)))))
  refine gq_loc [(0, .ref q)] rfl ?_
  refine gq_aload_n hC 0 dX1_init_0 rfl rfl ?_
  refine gq_oinit hC (List.mem_of_getElem? (i := 1) rfl) (List.mem_of_getElem? (i := 2) rfl) (List.mem_of_getElem? (i := 3) rfl) dX1_init_1 ⟨Nat.le_of_ble_eq_true rfl, Nat.le_of_ble_eq_true rfl⟩ ?_
  refine gq_aload_n hC 0 dX1_init_4 rfl rfl ?_
  refine gq_bipush hC 8 dX1_init_5 (by decide) ?_
  refine gq_newQ hC (N := 8) (t0 := 3) (List.mem_of_getElem? (i := 4) rfl) hN.2.2.1 rfl (by decide) (by decide) (by decide) ⟨Nat.le_of_ble_eq_true rfl, Nat.le_of_ble_eq_true rfl⟩ dX1_init_7 (fun qa => ?_)
  have hC := gq_at (k' := 1) (n' := 8) hC ⟨Nat.le_of_ble_eq_true rfl, Nat.le_of_ble_eq_true rfl⟩
  refine gq_wld ((q, .inr (1, [.int 0, .int 0, .null])) :: (qa, .inl (cO, 8, .inr (.inr (.inr (.inr (fun _ => none)))))) :: []) rfl ?_
  refine gq_putF hC (kf := 2) 0 ((q, .inr (1, [.int 0, .int 0, .ref qa])) :: (qa, .inl (cO, 8, .inr (.inr (.inr (.inr (fun _ => none)))))) :: []) hnm tyX1 tyX1_ok nmX1 hin_X1 rfl rfl (by decide) (show Cond.fieldLink RX1 11 (TX1 2).1 (TX1 2).2.1 (TX1 2).2.2.1 ∈ wsX1_init from List.mem_of_getElem? (i := 5) rfl) rfl rfl rfl rfl (by decide) dX1_init_10 rfl ?_
  refine gq_iconst hC 0 dX1_init_13 rfl ?_
  refine gq_istore_n hC [(1, .int 0), (0, .ref q)] dX1_init_14 rfl (by decide) rfl ?_
  refine gq_iload_n hC 0 dX1_init_15 rfl rfl ?_
  refine gq_bipush hC 8 dX1_init_16 (by decide) ?_
  refine gq_icmp_ge hC 40 dX1_init_18 (by decide) (fun h9 => absurd h9 (by decide)) (fun _ => ?_)
  refine gq_aload_n hC 1 dX1_init_21 rfl rfl ?_
  refine gq_get hC (kf := 2) 0 hin_X1 rfl rfl (by decide) (show Cond.fieldLink RX1 11 (TX1 2).1 (TX1 2).2.1 (TX1 2).2.2.1 ∈ wsX1_init from (List.mem_of_getElem? (i := 5) rfl)) rfl dX1_init_22 ?_
  refine gq_iload_n hC 0 dX1_init_25 rfl rfl ?_
  refine gq_newC hC hN (ci := 6) tyX6 (fun w h => List.mem_cons_of_mem _ (List.mem_append_left _ (List.mem_append_left _ (List.mem_append_left _ (List.mem_append_right _ h))))) tyX6_ok rfl (fun j hj => by rcases (show j = 0 ∨ j = 1 ∨ j = 2 ∨ j = 3 by omega) with rfl | rfl | rfl | rfl <;> rfl) ⟨(List.mem_of_getElem? (i := 4) rfl), (List.mem_of_getElem? (i := 6) rfl), (List.mem_of_getElem? (i := 7) rfl)⟩ (fun q9 => kc_X6 l D cI cJ cZ cO z q9) gX1_init_X6_init_n17 rfl ⟨rfl, rfl⟩ ⟨rfl, rfl⟩ (by decide +kernel) (List.mem_of_getElem? (i := 8) rfl) (Or.inl (hN.1 (RX1, 17, yX6_init) (by simp [gq_nl]))) ⟨Nat.le_of_ble_eq_true rfl, Nat.le_of_ble_eq_true rfl⟩ ⟨Nat.le_of_ble_eq_true rfl, Nat.le_of_ble_eq_true rfl⟩ (Nat.le_of_ble_eq_true rfl) dX1_init_26 dX1_init_29 dX1_init_30 (fun q1 W9 h9 => ?_)
  have hC := gq_at (k' := 18) (n' := 555) hC ⟨Nat.le_of_ble_eq_true rfl, Nat.le_of_ble_eq_true rfl⟩
  obtain ⟨a1, a1e, rfl⟩ := h9
  subst a1e
  refine gq_wld ((q, .inr (1, [.int 0, .int 0, .ref qa])) :: (qa, .inl (cO, 8, .inr (.inr (.inr (.inr (fun _ => none)))))) :: ([] ++ gq_shw cI cJ a1 gq_S0)) rfl ?_
  refine gq_aastq hC (ci := 6) 1 3 2 ((q, .inr (1, [.int 0, .int 0, .ref qa])) :: (qa, .inl (cO, 8, .inr (.inr (.inr (.inr (va_up (fun _ => none) (0 : Int32).toNatClampNeg (some (a1 0)))))))) :: ([] ++ gq_shw cI cJ a1 gq_S0)) rfl rfl rfl rfl (by unfold vp_in; decide) dX1_init_33 rfl ?_
  refine gq_iinc hC 0 1 [(1, .int 1), (0, .ref q)] dX1_init_34 rfl (by decide) (by decide) rfl ?_
  refine gq_goto hC 15 dX1_init_37 (by decide) ?_
  refine gq_iload_n hC 0 dX1_init_15 rfl rfl ?_
  refine gq_bipush hC 8 dX1_init_16 (by decide) ?_
  refine gq_icmp_ge hC 40 dX1_init_18 (by decide) (fun h9 => absurd h9 (by decide)) (fun _ => ?_)
  refine gq_aload_n hC 1 dX1_init_21 rfl rfl ?_
  refine gq_get hC (kf := 2) 0 hin_X1 rfl rfl (by decide) (show Cond.fieldLink RX1 11 (TX1 2).1 (TX1 2).2.1 (TX1 2).2.2.1 ∈ wsX1_init from (List.mem_of_getElem? (i := 5) rfl)) rfl dX1_init_22 ?_
  refine gq_iload_n hC 0 dX1_init_25 rfl rfl ?_
  refine gq_newC hC hN (ci := 6) tyX6 (fun w h => List.mem_cons_of_mem _ (List.mem_append_left _ (List.mem_append_left _ (List.mem_append_left _ (List.mem_append_right _ h))))) tyX6_ok rfl (fun j hj => by rcases (show j = 0 ∨ j = 1 ∨ j = 2 ∨ j = 3 by omega) with rfl | rfl | rfl | rfl <;> rfl) ⟨(List.mem_of_getElem? (i := 4) rfl), (List.mem_of_getElem? (i := 6) rfl), (List.mem_of_getElem? (i := 7) rfl)⟩ (fun q9 => kc_X6 l D cI cJ cZ cO z q9) gX1_init_X6_init_n17 rfl ⟨rfl, rfl⟩ ⟨rfl, rfl⟩ (by decide +kernel) (List.mem_of_getElem? (i := 8) rfl) (Or.inl (hN.1 (RX1, 17, yX6_init) (by simp [gq_nl]))) ⟨Nat.le_of_ble_eq_true rfl, Nat.le_of_ble_eq_true rfl⟩ ⟨Nat.le_of_ble_eq_true rfl, Nat.le_of_ble_eq_true rfl⟩ (Nat.le_of_ble_eq_true rfl) dX1_init_26 dX1_init_29 dX1_init_30 (fun q2 W9 h9 => ?_)
  have hC := gq_at (k' := 35) (n' := 1102) hC ⟨Nat.le_of_ble_eq_true rfl, Nat.le_of_ble_eq_true rfl⟩
  obtain ⟨a2, a2e, rfl⟩ := h9
  subst a2e
  refine gq_wld ((q, .inr (1, [.int 0, .int 0, .ref qa])) :: (qa, .inl (cO, 8, .inr (.inr (.inr (.inr (va_up (fun _ => none) (0 : Int32).toNatClampNeg (some (a1 0)))))))) :: (([] ++ gq_shw cI cJ a1 gq_S0) ++ gq_shw cI cJ a2 gq_S0)) rfl ?_
  refine gq_aastq hC (ci := 6) 1 3 19 ((q, .inr (1, [.int 0, .int 0, .ref qa])) :: (qa, .inl (cO, 8, .inr (.inr (.inr (.inr (va_up (va_up (fun _ => none) (0 : Int32).toNatClampNeg (some (a1 0))) (1 : Int32).toNatClampNeg (some (a2 0)))))))) :: (([] ++ gq_shw cI cJ a1 gq_S0) ++ gq_shw cI cJ a2 gq_S0)) rfl rfl rfl rfl (by unfold vp_in; decide) dX1_init_33 rfl ?_
  refine gq_iinc hC 0 2 [(1, .int 2), (0, .ref q)] dX1_init_34 rfl (by decide) (by decide) rfl ?_
  refine gq_goto hC 15 dX1_init_37 (by decide) ?_
  refine gq_iload_n hC 0 dX1_init_15 rfl rfl ?_
  refine gq_bipush hC 8 dX1_init_16 (by decide) ?_
  refine gq_icmp_ge hC 40 dX1_init_18 (by decide) (fun h9 => absurd h9 (by decide)) (fun _ => ?_)
  refine gq_aload_n hC 1 dX1_init_21 rfl rfl ?_
  refine gq_get hC (kf := 2) 0 hin_X1 rfl rfl (by decide) (show Cond.fieldLink RX1 11 (TX1 2).1 (TX1 2).2.1 (TX1 2).2.2.1 ∈ wsX1_init from (List.mem_of_getElem? (i := 5) rfl)) rfl dX1_init_22 ?_
  refine gq_iload_n hC 0 dX1_init_25 rfl rfl ?_
  refine gq_newC hC hN (ci := 6) tyX6 (fun w h => List.mem_cons_of_mem _ (List.mem_append_left _ (List.mem_append_left _ (List.mem_append_left _ (List.mem_append_right _ h))))) tyX6_ok rfl (fun j hj => by rcases (show j = 0 ∨ j = 1 ∨ j = 2 ∨ j = 3 by omega) with rfl | rfl | rfl | rfl <;> rfl) ⟨(List.mem_of_getElem? (i := 4) rfl), (List.mem_of_getElem? (i := 6) rfl), (List.mem_of_getElem? (i := 7) rfl)⟩ (fun q9 => kc_X6 l D cI cJ cZ cO z q9) gX1_init_X6_init_n17 rfl ⟨rfl, rfl⟩ ⟨rfl, rfl⟩ (by decide +kernel) (List.mem_of_getElem? (i := 8) rfl) (Or.inl (hN.1 (RX1, 17, yX6_init) (by simp [gq_nl]))) ⟨Nat.le_of_ble_eq_true rfl, Nat.le_of_ble_eq_true rfl⟩ ⟨Nat.le_of_ble_eq_true rfl, Nat.le_of_ble_eq_true rfl⟩ (Nat.le_of_ble_eq_true rfl) dX1_init_26 dX1_init_29 dX1_init_30 (fun q3 W9 h9 => ?_)
  have hC := gq_at (k' := 52) (n' := 1649) hC ⟨Nat.le_of_ble_eq_true rfl, Nat.le_of_ble_eq_true rfl⟩
  obtain ⟨a3, a3e, rfl⟩ := h9
  subst a3e
  refine gq_wld ((q, .inr (1, [.int 0, .int 0, .ref qa])) :: (qa, .inl (cO, 8, .inr (.inr (.inr (.inr (va_up (va_up (fun _ => none) (0 : Int32).toNatClampNeg (some (a1 0))) (1 : Int32).toNatClampNeg (some (a2 0)))))))) :: ((([] ++ gq_shw cI cJ a1 gq_S0) ++ gq_shw cI cJ a2 gq_S0) ++ gq_shw cI cJ a3 gq_S0)) rfl ?_
  refine gq_aastq hC (ci := 6) 1 3 36 ((q, .inr (1, [.int 0, .int 0, .ref qa])) :: (qa, .inl (cO, 8, .inr (.inr (.inr (.inr (va_up (va_up (va_up (fun _ => none) (0 : Int32).toNatClampNeg (some (a1 0))) (1 : Int32).toNatClampNeg (some (a2 0))) (2 : Int32).toNatClampNeg (some (a3 0)))))))) :: ((([] ++ gq_shw cI cJ a1 gq_S0) ++ gq_shw cI cJ a2 gq_S0) ++ gq_shw cI cJ a3 gq_S0)) rfl rfl rfl rfl (by unfold vp_in; decide) dX1_init_33 rfl ?_
  refine gq_iinc hC 0 3 [(1, .int 3), (0, .ref q)] dX1_init_34 rfl (by decide) (by decide) rfl ?_
  refine gq_goto hC 15 dX1_init_37 (by decide) ?_
  refine gq_iload_n hC 0 dX1_init_15 rfl rfl ?_
  refine gq_bipush hC 8 dX1_init_16 (by decide) ?_
  refine gq_icmp_ge hC 40 dX1_init_18 (by decide) (fun h9 => absurd h9 (by decide)) (fun _ => ?_)
  refine gq_aload_n hC 1 dX1_init_21 rfl rfl ?_
  refine gq_get hC (kf := 2) 0 hin_X1 rfl rfl (by decide) (show Cond.fieldLink RX1 11 (TX1 2).1 (TX1 2).2.1 (TX1 2).2.2.1 ∈ wsX1_init from (List.mem_of_getElem? (i := 5) rfl)) rfl dX1_init_22 ?_
  refine gq_iload_n hC 0 dX1_init_25 rfl rfl ?_
  refine gq_newC hC hN (ci := 6) tyX6 (fun w h => List.mem_cons_of_mem _ (List.mem_append_left _ (List.mem_append_left _ (List.mem_append_left _ (List.mem_append_right _ h))))) tyX6_ok rfl (fun j hj => by rcases (show j = 0 ∨ j = 1 ∨ j = 2 ∨ j = 3 by omega) with rfl | rfl | rfl | rfl <;> rfl) ⟨(List.mem_of_getElem? (i := 4) rfl), (List.mem_of_getElem? (i := 6) rfl), (List.mem_of_getElem? (i := 7) rfl)⟩ (fun q9 => kc_X6 l D cI cJ cZ cO z q9) gX1_init_X6_init_n17 rfl ⟨rfl, rfl⟩ ⟨rfl, rfl⟩ (by decide +kernel) (List.mem_of_getElem? (i := 8) rfl) (Or.inl (hN.1 (RX1, 17, yX6_init) (by simp [gq_nl]))) ⟨Nat.le_of_ble_eq_true rfl, Nat.le_of_ble_eq_true rfl⟩ ⟨Nat.le_of_ble_eq_true rfl, Nat.le_of_ble_eq_true rfl⟩ (Nat.le_of_ble_eq_true rfl) dX1_init_26 dX1_init_29 dX1_init_30 (fun q4 W9 h9 => ?_)
  have hC := gq_at (k' := 69) (n' := 2196) hC ⟨Nat.le_of_ble_eq_true rfl, Nat.le_of_ble_eq_true rfl⟩
  obtain ⟨a4, a4e, rfl⟩ := h9
  subst a4e
  refine gq_wld ((q, .inr (1, [.int 0, .int 0, .ref qa])) :: (qa, .inl (cO, 8, .inr (.inr (.inr (.inr (va_up (va_up (va_up (fun _ => none) (0 : Int32).toNatClampNeg (some (a1 0))) (1 : Int32).toNatClampNeg (some (a2 0))) (2 : Int32).toNatClampNeg (some (a3 0)))))))) :: (((([] ++ gq_shw cI cJ a1 gq_S0) ++ gq_shw cI cJ a2 gq_S0) ++ gq_shw cI cJ a3 gq_S0) ++ gq_shw cI cJ a4 gq_S0)) rfl ?_
  refine gq_aastq hC (ci := 6) 1 3 53 ((q, .inr (1, [.int 0, .int 0, .ref qa])) :: (qa, .inl (cO, 8, .inr (.inr (.inr (.inr (va_up (va_up (va_up (va_up (fun _ => none) (0 : Int32).toNatClampNeg (some (a1 0))) (1 : Int32).toNatClampNeg (some (a2 0))) (2 : Int32).toNatClampNeg (some (a3 0))) (3 : Int32).toNatClampNeg (some (a4 0)))))))) :: (((([] ++ gq_shw cI cJ a1 gq_S0) ++ gq_shw cI cJ a2 gq_S0) ++ gq_shw cI cJ a3 gq_S0) ++ gq_shw cI cJ a4 gq_S0)) rfl rfl rfl rfl (by unfold vp_in; decide) dX1_init_33 rfl ?_
  refine gq_iinc hC 0 4 [(1, .int 4), (0, .ref q)] dX1_init_34 rfl (by decide) (by decide) rfl ?_
  refine gq_goto hC 15 dX1_init_37 (by decide) ?_
  refine gq_iload_n hC 0 dX1_init_15 rfl rfl ?_
  refine gq_bipush hC 8 dX1_init_16 (by decide) ?_
  refine gq_icmp_ge hC 40 dX1_init_18 (by decide) (fun h9 => absurd h9 (by decide)) (fun _ => ?_)
  refine gq_aload_n hC 1 dX1_init_21 rfl rfl ?_
  refine gq_get hC (kf := 2) 0 hin_X1 rfl rfl (by decide) (show Cond.fieldLink RX1 11 (TX1 2).1 (TX1 2).2.1 (TX1 2).2.2.1 ∈ wsX1_init from (List.mem_of_getElem? (i := 5) rfl)) rfl dX1_init_22 ?_
  refine gq_iload_n hC 0 dX1_init_25 rfl rfl ?_
  refine gq_newC hC hN (ci := 6) tyX6 (fun w h => List.mem_cons_of_mem _ (List.mem_append_left _ (List.mem_append_left _ (List.mem_append_left _ (List.mem_append_right _ h))))) tyX6_ok rfl (fun j hj => by rcases (show j = 0 ∨ j = 1 ∨ j = 2 ∨ j = 3 by omega) with rfl | rfl | rfl | rfl <;> rfl) ⟨(List.mem_of_getElem? (i := 4) rfl), (List.mem_of_getElem? (i := 6) rfl), (List.mem_of_getElem? (i := 7) rfl)⟩ (fun q9 => kc_X6 l D cI cJ cZ cO z q9) gX1_init_X6_init_n17 rfl ⟨rfl, rfl⟩ ⟨rfl, rfl⟩ (by decide +kernel) (List.mem_of_getElem? (i := 8) rfl) (Or.inl (hN.1 (RX1, 17, yX6_init) (by simp [gq_nl]))) ⟨Nat.le_of_ble_eq_true rfl, Nat.le_of_ble_eq_true rfl⟩ ⟨Nat.le_of_ble_eq_true rfl, Nat.le_of_ble_eq_true rfl⟩ (Nat.le_of_ble_eq_true rfl) dX1_init_26 dX1_init_29 dX1_init_30 (fun q5 W9 h9 => ?_)
  have hC := gq_at (k' := 86) (n' := 2743) hC ⟨Nat.le_of_ble_eq_true rfl, Nat.le_of_ble_eq_true rfl⟩
  obtain ⟨a5, a5e, rfl⟩ := h9
  subst a5e
  refine gq_wld ((q, .inr (1, [.int 0, .int 0, .ref qa])) :: (qa, .inl (cO, 8, .inr (.inr (.inr (.inr (va_up (va_up (va_up (va_up (fun _ => none) (0 : Int32).toNatClampNeg (some (a1 0))) (1 : Int32).toNatClampNeg (some (a2 0))) (2 : Int32).toNatClampNeg (some (a3 0))) (3 : Int32).toNatClampNeg (some (a4 0)))))))) :: ((((([] ++ gq_shw cI cJ a1 gq_S0) ++ gq_shw cI cJ a2 gq_S0) ++ gq_shw cI cJ a3 gq_S0) ++ gq_shw cI cJ a4 gq_S0) ++ gq_shw cI cJ a5 gq_S0)) rfl ?_
  refine gq_aastq hC (ci := 6) 1 3 70 ((q, .inr (1, [.int 0, .int 0, .ref qa])) :: (qa, .inl (cO, 8, .inr (.inr (.inr (.inr (va_up (va_up (va_up (va_up (va_up (fun _ => none) (0 : Int32).toNatClampNeg (some (a1 0))) (1 : Int32).toNatClampNeg (some (a2 0))) (2 : Int32).toNatClampNeg (some (a3 0))) (3 : Int32).toNatClampNeg (some (a4 0))) (4 : Int32).toNatClampNeg (some (a5 0)))))))) :: ((((([] ++ gq_shw cI cJ a1 gq_S0) ++ gq_shw cI cJ a2 gq_S0) ++ gq_shw cI cJ a3 gq_S0) ++ gq_shw cI cJ a4 gq_S0) ++ gq_shw cI cJ a5 gq_S0)) rfl rfl rfl rfl (by unfold vp_in; decide) dX1_init_33 rfl ?_
  refine gq_iinc hC 0 5 [(1, .int 5), (0, .ref q)] dX1_init_34 rfl (by decide) (by decide) rfl ?_
  refine gq_goto hC 15 dX1_init_37 (by decide) ?_
  refine gq_iload_n hC 0 dX1_init_15 rfl rfl ?_
  refine gq_bipush hC 8 dX1_init_16 (by decide) ?_
  refine gq_icmp_ge hC 40 dX1_init_18 (by decide) (fun h9 => absurd h9 (by decide)) (fun _ => ?_)
  refine gq_aload_n hC 1 dX1_init_21 rfl rfl ?_
  refine gq_get hC (kf := 2) 0 hin_X1 rfl rfl (by decide) (show Cond.fieldLink RX1 11 (TX1 2).1 (TX1 2).2.1 (TX1 2).2.2.1 ∈ wsX1_init from (List.mem_of_getElem? (i := 5) rfl)) rfl dX1_init_22 ?_
  refine gq_iload_n hC 0 dX1_init_25 rfl rfl ?_
  refine gq_newC hC hN (ci := 6) tyX6 (fun w h => List.mem_cons_of_mem _ (List.mem_append_left _ (List.mem_append_left _ (List.mem_append_left _ (List.mem_append_right _ h))))) tyX6_ok rfl (fun j hj => by rcases (show j = 0 ∨ j = 1 ∨ j = 2 ∨ j = 3 by omega) with rfl | rfl | rfl | rfl <;> rfl) ⟨(List.mem_of_getElem? (i := 4) rfl), (List.mem_of_getElem? (i := 6) rfl), (List.mem_of_getElem? (i := 7) rfl)⟩ (fun q9 => kc_X6 l D cI cJ cZ cO z q9) gX1_init_X6_init_n17 rfl ⟨rfl, rfl⟩ ⟨rfl, rfl⟩ (by decide +kernel) (List.mem_of_getElem? (i := 8) rfl) (Or.inl (hN.1 (RX1, 17, yX6_init) (by simp [gq_nl]))) ⟨Nat.le_of_ble_eq_true rfl, Nat.le_of_ble_eq_true rfl⟩ ⟨Nat.le_of_ble_eq_true rfl, Nat.le_of_ble_eq_true rfl⟩ (Nat.le_of_ble_eq_true rfl) dX1_init_26 dX1_init_29 dX1_init_30 (fun q6 W9 h9 => ?_)
  have hC := gq_at (k' := 103) (n' := 3290) hC ⟨Nat.le_of_ble_eq_true rfl, Nat.le_of_ble_eq_true rfl⟩
  obtain ⟨a6, a6e, rfl⟩ := h9
  subst a6e
  refine gq_wld ((q, .inr (1, [.int 0, .int 0, .ref qa])) :: (qa, .inl (cO, 8, .inr (.inr (.inr (.inr (va_up (va_up (va_up (va_up (va_up (fun _ => none) (0 : Int32).toNatClampNeg (some (a1 0))) (1 : Int32).toNatClampNeg (some (a2 0))) (2 : Int32).toNatClampNeg (some (a3 0))) (3 : Int32).toNatClampNeg (some (a4 0))) (4 : Int32).toNatClampNeg (some (a5 0)))))))) :: (((((([] ++ gq_shw cI cJ a1 gq_S0) ++ gq_shw cI cJ a2 gq_S0) ++ gq_shw cI cJ a3 gq_S0) ++ gq_shw cI cJ a4 gq_S0) ++ gq_shw cI cJ a5 gq_S0) ++ gq_shw cI cJ a6 gq_S0)) rfl ?_
  refine gq_aastq hC (ci := 6) 1 3 87 ((q, .inr (1, [.int 0, .int 0, .ref qa])) :: (qa, .inl (cO, 8, .inr (.inr (.inr (.inr (va_up (va_up (va_up (va_up (va_up (va_up (fun _ => none) (0 : Int32).toNatClampNeg (some (a1 0))) (1 : Int32).toNatClampNeg (some (a2 0))) (2 : Int32).toNatClampNeg (some (a3 0))) (3 : Int32).toNatClampNeg (some (a4 0))) (4 : Int32).toNatClampNeg (some (a5 0))) (5 : Int32).toNatClampNeg (some (a6 0)))))))) :: (((((([] ++ gq_shw cI cJ a1 gq_S0) ++ gq_shw cI cJ a2 gq_S0) ++ gq_shw cI cJ a3 gq_S0) ++ gq_shw cI cJ a4 gq_S0) ++ gq_shw cI cJ a5 gq_S0) ++ gq_shw cI cJ a6 gq_S0)) rfl rfl rfl rfl (by unfold vp_in; decide) dX1_init_33 rfl ?_
  refine gq_iinc hC 0 6 [(1, .int 6), (0, .ref q)] dX1_init_34 rfl (by decide) (by decide) rfl ?_
  refine gq_goto hC 15 dX1_init_37 (by decide) ?_
  refine gq_iload_n hC 0 dX1_init_15 rfl rfl ?_
  refine gq_bipush hC 8 dX1_init_16 (by decide) ?_
  refine gq_icmp_ge hC 40 dX1_init_18 (by decide) (fun h9 => absurd h9 (by decide)) (fun _ => ?_)
  refine gq_aload_n hC 1 dX1_init_21 rfl rfl ?_
  refine gq_get hC (kf := 2) 0 hin_X1 rfl rfl (by decide) (show Cond.fieldLink RX1 11 (TX1 2).1 (TX1 2).2.1 (TX1 2).2.2.1 ∈ wsX1_init from (List.mem_of_getElem? (i := 5) rfl)) rfl dX1_init_22 ?_
  refine gq_iload_n hC 0 dX1_init_25 rfl rfl ?_
  refine gq_newC hC hN (ci := 6) tyX6 (fun w h => List.mem_cons_of_mem _ (List.mem_append_left _ (List.mem_append_left _ (List.mem_append_left _ (List.mem_append_right _ h))))) tyX6_ok rfl (fun j hj => by rcases (show j = 0 ∨ j = 1 ∨ j = 2 ∨ j = 3 by omega) with rfl | rfl | rfl | rfl <;> rfl) ⟨(List.mem_of_getElem? (i := 4) rfl), (List.mem_of_getElem? (i := 6) rfl), (List.mem_of_getElem? (i := 7) rfl)⟩ (fun q9 => kc_X6 l D cI cJ cZ cO z q9) gX1_init_X6_init_n17 rfl ⟨rfl, rfl⟩ ⟨rfl, rfl⟩ (by decide +kernel) (List.mem_of_getElem? (i := 8) rfl) (Or.inl (hN.1 (RX1, 17, yX6_init) (by simp [gq_nl]))) ⟨Nat.le_of_ble_eq_true rfl, Nat.le_of_ble_eq_true rfl⟩ ⟨Nat.le_of_ble_eq_true rfl, Nat.le_of_ble_eq_true rfl⟩ (Nat.le_of_ble_eq_true rfl) dX1_init_26 dX1_init_29 dX1_init_30 (fun q7 W9 h9 => ?_)
  have hC := gq_at (k' := 120) (n' := 3837) hC ⟨Nat.le_of_ble_eq_true rfl, Nat.le_of_ble_eq_true rfl⟩
  obtain ⟨a7, a7e, rfl⟩ := h9
  subst a7e
  refine gq_wld ((q, .inr (1, [.int 0, .int 0, .ref qa])) :: (qa, .inl (cO, 8, .inr (.inr (.inr (.inr (va_up (va_up (va_up (va_up (va_up (va_up (fun _ => none) (0 : Int32).toNatClampNeg (some (a1 0))) (1 : Int32).toNatClampNeg (some (a2 0))) (2 : Int32).toNatClampNeg (some (a3 0))) (3 : Int32).toNatClampNeg (some (a4 0))) (4 : Int32).toNatClampNeg (some (a5 0))) (5 : Int32).toNatClampNeg (some (a6 0)))))))) :: ((((((([] ++ gq_shw cI cJ a1 gq_S0) ++ gq_shw cI cJ a2 gq_S0) ++ gq_shw cI cJ a3 gq_S0) ++ gq_shw cI cJ a4 gq_S0) ++ gq_shw cI cJ a5 gq_S0) ++ gq_shw cI cJ a6 gq_S0) ++ gq_shw cI cJ a7 gq_S0)) rfl ?_
  refine gq_aastq hC (ci := 6) 1 3 104 ((q, .inr (1, [.int 0, .int 0, .ref qa])) :: (qa, .inl (cO, 8, .inr (.inr (.inr (.inr (va_up (va_up (va_up (va_up (va_up (va_up (va_up (fun _ => none) (0 : Int32).toNatClampNeg (some (a1 0))) (1 : Int32).toNatClampNeg (some (a2 0))) (2 : Int32).toNatClampNeg (some (a3 0))) (3 : Int32).toNatClampNeg (some (a4 0))) (4 : Int32).toNatClampNeg (some (a5 0))) (5 : Int32).toNatClampNeg (some (a6 0))) (6 : Int32).toNatClampNeg (some (a7 0)))))))) :: ((((((([] ++ gq_shw cI cJ a1 gq_S0) ++ gq_shw cI cJ a2 gq_S0) ++ gq_shw cI cJ a3 gq_S0) ++ gq_shw cI cJ a4 gq_S0) ++ gq_shw cI cJ a5 gq_S0) ++ gq_shw cI cJ a6 gq_S0) ++ gq_shw cI cJ a7 gq_S0)) rfl rfl rfl rfl (by unfold vp_in; decide) dX1_init_33 rfl ?_
  refine gq_iinc hC 0 7 [(1, .int 7), (0, .ref q)] dX1_init_34 rfl (by decide) (by decide) rfl ?_
  refine gq_goto hC 15 dX1_init_37 (by decide) ?_
  refine gq_iload_n hC 0 dX1_init_15 rfl rfl ?_
  refine gq_bipush hC 8 dX1_init_16 (by decide) ?_
  refine gq_icmp_ge hC 40 dX1_init_18 (by decide) (fun h9 => absurd h9 (by decide)) (fun _ => ?_)
  refine gq_aload_n hC 1 dX1_init_21 rfl rfl ?_
  refine gq_get hC (kf := 2) 0 hin_X1 rfl rfl (by decide) (show Cond.fieldLink RX1 11 (TX1 2).1 (TX1 2).2.1 (TX1 2).2.2.1 ∈ wsX1_init from (List.mem_of_getElem? (i := 5) rfl)) rfl dX1_init_22 ?_
  refine gq_iload_n hC 0 dX1_init_25 rfl rfl ?_
  refine gq_newC hC hN (ci := 6) tyX6 (fun w h => List.mem_cons_of_mem _ (List.mem_append_left _ (List.mem_append_left _ (List.mem_append_left _ (List.mem_append_right _ h))))) tyX6_ok rfl (fun j hj => by rcases (show j = 0 ∨ j = 1 ∨ j = 2 ∨ j = 3 by omega) with rfl | rfl | rfl | rfl <;> rfl) ⟨(List.mem_of_getElem? (i := 4) rfl), (List.mem_of_getElem? (i := 6) rfl), (List.mem_of_getElem? (i := 7) rfl)⟩ (fun q9 => kc_X6 l D cI cJ cZ cO z q9) gX1_init_X6_init_n17 rfl ⟨rfl, rfl⟩ ⟨rfl, rfl⟩ (by decide +kernel) (List.mem_of_getElem? (i := 8) rfl) (Or.inl (hN.1 (RX1, 17, yX6_init) (by simp [gq_nl]))) ⟨Nat.le_of_ble_eq_true rfl, Nat.le_of_ble_eq_true rfl⟩ ⟨Nat.le_of_ble_eq_true rfl, Nat.le_of_ble_eq_true rfl⟩ (Nat.le_of_ble_eq_true rfl) dX1_init_26 dX1_init_29 dX1_init_30 (fun q8 W9 h9 => ?_)
  have hC := gq_at (k' := 137) (n' := 4384) hC ⟨Nat.le_of_ble_eq_true rfl, Nat.le_of_ble_eq_true rfl⟩
  obtain ⟨a8, a8e, rfl⟩ := h9
  subst a8e
  refine gq_wld ((q, .inr (1, [.int 0, .int 0, .ref qa])) :: (qa, .inl (cO, 8, .inr (.inr (.inr (.inr (va_up (va_up (va_up (va_up (va_up (va_up (va_up (fun _ => none) (0 : Int32).toNatClampNeg (some (a1 0))) (1 : Int32).toNatClampNeg (some (a2 0))) (2 : Int32).toNatClampNeg (some (a3 0))) (3 : Int32).toNatClampNeg (some (a4 0))) (4 : Int32).toNatClampNeg (some (a5 0))) (5 : Int32).toNatClampNeg (some (a6 0))) (6 : Int32).toNatClampNeg (some (a7 0)))))))) :: (((((((([] ++ gq_shw cI cJ a1 gq_S0) ++ gq_shw cI cJ a2 gq_S0) ++ gq_shw cI cJ a3 gq_S0) ++ gq_shw cI cJ a4 gq_S0) ++ gq_shw cI cJ a5 gq_S0) ++ gq_shw cI cJ a6 gq_S0) ++ gq_shw cI cJ a7 gq_S0) ++ gq_shw cI cJ a8 gq_S0)) rfl ?_
  refine gq_aastq hC (ci := 6) 1 3 121 ((q, .inr (1, [.int 0, .int 0, .ref qa])) :: (qa, .inl (cO, 8, .inr (.inr (.inr (.inr (va_up (va_up (va_up (va_up (va_up (va_up (va_up (va_up (fun _ => none) (0 : Int32).toNatClampNeg (some (a1 0))) (1 : Int32).toNatClampNeg (some (a2 0))) (2 : Int32).toNatClampNeg (some (a3 0))) (3 : Int32).toNatClampNeg (some (a4 0))) (4 : Int32).toNatClampNeg (some (a5 0))) (5 : Int32).toNatClampNeg (some (a6 0))) (6 : Int32).toNatClampNeg (some (a7 0))) (7 : Int32).toNatClampNeg (some (a8 0)))))))) :: (((((((([] ++ gq_shw cI cJ a1 gq_S0) ++ gq_shw cI cJ a2 gq_S0) ++ gq_shw cI cJ a3 gq_S0) ++ gq_shw cI cJ a4 gq_S0) ++ gq_shw cI cJ a5 gq_S0) ++ gq_shw cI cJ a6 gq_S0) ++ gq_shw cI cJ a7 gq_S0) ++ gq_shw cI cJ a8 gq_S0)) rfl rfl rfl rfl (by unfold vp_in; decide) dX1_init_33 rfl ?_
  refine gq_iinc hC 0 8 [(1, .int 8), (0, .ref q)] dX1_init_34 rfl (by decide) (by decide) rfl ?_
  refine gq_goto hC 15 dX1_init_37 (by decide) ?_
  refine gq_iload_n hC 0 dX1_init_15 rfl rfl ?_
  refine gq_bipush hC 8 dX1_init_16 (by decide) ?_
  refine gq_icmp_ge hC 40 dX1_init_18 (by decide) (fun _ => ?_) (fun h9 => absurd (by decide) h9)
  refine gq_q8 (f2 := fun j => some ((fun n => match n / 17 with | 0 => a1 (n % 17) | 1 => a2 (n % 17) | 2 => a3 (n % 17) | 3 => a4 (n % 17) | 4 => a5 (n % 17) | 5 => a6 (n % 17) | 6 => a7 (n % 17) | _ => a8 (n % 17)) (17 * j))) (fun j hj => by rcases (show j = 0 ∨ j = 1 ∨ j = 2 ∨ j = 3 ∨ j = 4 ∨ j = 5 ∨ j = 6 ∨ j = 7 by omega) with rfl | rfl | rfl | rfl | rfl | rfl | rfl | rfl <;> rfl) ?_
  exact gq_cret hC (Nat.le_of_ble_eq_true rfl) (Nat.le_of_ble_eq_true rfl) ⟨qa, (fun n => match n / 17 with | 0 => a1 (n % 17) | 1 => a2 (n % 17) | 2 => a3 (n % 17) | 3 => a4 (n % 17) | 4 => a5 (n % 17) | 5 => a6 (n % 17) | 6 => a7 (n % 17) | _ => a8 (n % 17)), rfl⟩ dX1_init_40
def PX10 (cI cJ cZ cO : ClassId) (q : Nat) (W : va_W) : Prop := ∃ (a1 : Nat → Nat) (q2 q3 q4 q5 q6 q7 : Nat) (W2 W3 W4 W5 W6 W7 : va_W), PX1 cI cJ cZ cO q2 W2 ∧ PX5 cI cJ cZ cO q3 W3 ∧ PX0 cI cJ cZ cO q4 W4 ∧ PX4 cI cJ cZ cO q5 W5 ∧ PX8 cI cJ cZ cO q6 W6 ∧ PX3 cI cJ cZ cO q7 W7 ∧ W = ((q, .inr (10, [.ref (a1 0), .ref q2, .ref q3, .ref q4, .ref q5, .ref q6, .ref q7, .int 1])) :: ((((((([] ++ gq_shw cI cJ a1 gq_S0) ++ W2) ++ W3) ++ W4) ++ W5) ++ W6) ++ W7))
set_option maxHeartbeats 4000000 in
set_option maxRecDepth 100000 in
theorem kc_X10 (l : Launch) (D : va_G) (cI cJ cZ cO : ClassId) (z : Nat → Nat) (q : Nat) : Cv l yX10_init wsX10_init (rmC 4 195 8788) D (gq_ty cI cJ cZ cO) cI z [.ref q] [(q, .inr (10, [.null, .null, .null, .null, .null, .null, .null, .int 0]))] (PX10 cI cJ cZ cO q) 195 8788 := by
  refine Cv.of (cc := cX10_init) (maxL := 1) (by decide) rfl rfl (Nat.le_of_ble_eq_true rfl) ?_
  intro p e s m args below meth c A hC hN hnm
  have hin_X10 : ∀ w ∈ wsX100, w ∈ wsX10_init := fun w h => List.mem_cons_of_mem _ (List.mem_append_left _ (List.mem_append_left _ (List.mem_append_left _ (List.mem_append_left _ (List.mem_append_left _ (List.mem_append_left _ (List.mem_append_left _ (List.mem_append_left _ (List.mem_append_left _ (List.mem_append_right _ h))))))))))
  refine gq_loc [(0, .ref q)] rfl ?_
  refine gq_aload_n hC 0 dX10_init_0 rfl rfl ?_
  refine gq_oinit hC (List.mem_of_getElem? (i := 1) rfl) (List.mem_of_getElem? (i := 2) rfl) (List.mem_of_getElem? (i := 3) rfl) dX10_init_1 ⟨Nat.le_of_ble_eq_true rfl, Nat.le_of_ble_eq_true rfl⟩ ?_
  refine gq_aload_n hC 0 dX10_init_4 rfl rfl ?_
  refine gq_newC hC hN (ci := 6) tyX6 (fun w h => List.mem_cons_of_mem _ (List.mem_append_left _ (List.mem_append_left _ (List.mem_append_left _ (List.mem_append_left _ (List.mem_append_left _ (List.mem_append_left _ (List.mem_append_left _ (List.mem_append_left _ (List.mem_append_left _ (List.mem_append_left _ (List.mem_append_right _ h)))))))))))) tyX6_ok rfl (fun j hj => by rcases (show j = 0 ∨ j = 1 ∨ j = 2 ∨ j = 3 by omega) with rfl | rfl | rfl | rfl <;> rfl) ⟨(List.mem_of_getElem? (i := 4) rfl), (List.mem_of_getElem? (i := 5) rfl), (List.mem_of_getElem? (i := 6) rfl)⟩ (fun q9 => kc_X6 l D cI cJ cZ cO z q9) gX10_init_X6_init_n11 rfl ⟨rfl, rfl⟩ ⟨rfl, rfl⟩ (by decide +kernel) (List.mem_of_getElem? (i := 33) rfl) (Or.inl (hN.1 (RX10, 11, yX6_init) (by simp [gq_nl]))) ⟨Nat.le_of_ble_eq_true rfl, Nat.le_of_ble_eq_true rfl⟩ ⟨Nat.le_of_ble_eq_true rfl, Nat.le_of_ble_eq_true rfl⟩ (Nat.le_of_ble_eq_true rfl) dX10_init_5 dX10_init_8 dX10_init_9 (fun q1 W9 h9 => ?_)
  have hC := gq_at (k' := 17) (n' := 547) hC ⟨Nat.le_of_ble_eq_true rfl, Nat.le_of_ble_eq_true rfl⟩
  obtain ⟨a1, a1e, rfl⟩ := h9
  subst a1e
  refine gq_wld ((q, .inr (10, [.null, .null, .null, .null, .null, .null, .null, .int 0])) :: ([] ++ gq_shw cI cJ a1 gq_S0)) rfl ?_
  refine gq_putF hC (kf := 0) 0 ((q, .inr (10, [.ref (a1 0), .null, .null, .null, .null, .null, .null, .int 0])) :: ([] ++ gq_shw cI cJ a1 gq_S0)) hnm tyX10 tyX10_ok nmX10 hin_X10 rfl rfl (by decide) (show Cond.fieldLink RX10 12 (TX10 0).1 (TX10 0).2.1 (TX10 0).2.2.1 ∈ wsX10_init from List.mem_of_getElem? (i := 7) rfl) rfl rfl rfl rfl (by decide) dX10_init_12 rfl ?_
  refine gq_aload_n hC 0 dX10_init_15 rfl rfl ?_
  refine gq_newC hC hN (ci := 1) tyX1 (fun w h => List.mem_cons_of_mem _ (List.mem_append_left _ (List.mem_append_left _ (List.mem_append_left _ (List.mem_append_left _ (List.mem_append_left _ (List.mem_append_left _ (List.mem_append_left _ (List.mem_append_left _ (List.mem_append_right _ h)))))))))) tyX1_ok rfl (fun j hj => by rcases (show j = 0 ∨ j = 1 ∨ j = 2 by omega) with rfl | rfl | rfl <;> rfl) ⟨(List.mem_of_getElem? (i := 8) rfl), (List.mem_of_getElem? (i := 9) rfl), (List.mem_of_getElem? (i := 10) rfl)⟩ (fun q9 => kc_X1 l D cI cJ cZ cO z q9) gX10_init_X1_init rfl ⟨rfl, rfl⟩ ⟨rfl, rfl⟩ (by decide +kernel) (List.mem_of_getElem? (i := 79) rfl) (Or.inr (List.mem_of_getElem? (i := 78) rfl)) ⟨Nat.le_of_ble_eq_true rfl, Nat.le_of_ble_eq_true rfl⟩ ⟨Nat.le_of_ble_eq_true rfl, Nat.le_of_ble_eq_true rfl⟩ (Nat.le_of_ble_eq_true rfl) dX10_init_16 dX10_init_19 dX10_init_20 (fun q2 W9 h9 => ?_)
  have hC := gq_at (k' := 155) (n' := 4934) hC ⟨Nat.le_of_ble_eq_true rfl, Nat.le_of_ble_eq_true rfl⟩
  obtain ⟨W2, W2e⟩ : ∃ w, w = W9 := ⟨_, rfl⟩
  rw [← W2e] at h9 ⊢
  have hW2 := h9
  refine gq_wld ((q, .inr (10, [.ref (a1 0), .null, .null, .null, .null, .null, .null, .int 0])) :: (([] ++ gq_shw cI cJ a1 gq_S0) ++ W2)) rfl ?_
  refine gq_putF hC (kf := 1) 0 ((q, .inr (10, [.ref (a1 0), .ref q2, .null, .null, .null, .null, .null, .int 0])) :: (([] ++ gq_shw cI cJ a1 gq_S0) ++ W2)) hnm tyX10 tyX10_ok nmX10 hin_X10 rfl rfl (by decide) (show Cond.fieldLink RX10 19 (TX10 1).1 (TX10 1).2.1 (TX10 1).2.2.1 ∈ wsX10_init from List.mem_of_getElem? (i := 11) rfl) rfl rfl rfl rfl (by decide) dX10_init_23 rfl ?_
  refine gq_aload_n hC 0 dX10_init_26 rfl rfl ?_
  refine gq_newC hC hN (ci := 5) tyX5 (fun w h => List.mem_cons_of_mem _ (List.mem_append_left _ (List.mem_append_left _ (List.mem_append_left _ (List.mem_append_left _ (List.mem_append_left _ (List.mem_append_left _ (List.mem_append_left _ (List.mem_append_right _ h))))))))) tyX5_ok rfl (fun j hj => by rcases (show j = 0 ∨ j = 1 ∨ j = 2 ∨ j = 3 ∨ j = 4 ∨ j = 5 ∨ j = 6 by omega) with rfl | rfl | rfl | rfl | rfl | rfl | rfl <;> rfl) ⟨(List.mem_of_getElem? (i := 12) rfl), (List.mem_of_getElem? (i := 13) rfl), (List.mem_of_getElem? (i := 14) rfl)⟩ (fun q9 => kc_X5 l D cI cJ cZ cO z q9) gX10_init_X5_init_n25 rfl ⟨rfl, rfl⟩ ⟨rfl, rfl⟩ (by decide +kernel) (List.mem_of_getElem? (i := 84) rfl) (Or.inl (hN.1 (RX10, 25, yX5_init) (by simp [gq_nl]))) ⟨Nat.le_of_ble_eq_true rfl, Nat.le_of_ble_eq_true rfl⟩ ⟨Nat.le_of_ble_eq_true rfl, Nat.le_of_ble_eq_true rfl⟩ (Nat.le_of_ble_eq_true rfl) dX10_init_27 dX10_init_30 dX10_init_31 (fun q3 W9 h9 => ?_)
  have hC := gq_at (k' := 174) (n' := 6388) hC ⟨Nat.le_of_ble_eq_true rfl, Nat.le_of_ble_eq_true rfl⟩
  obtain ⟨W3, W3e⟩ : ∃ w, w = W9 := ⟨_, rfl⟩
  rw [← W3e] at h9 ⊢
  have hW3 := h9
  refine gq_wld ((q, .inr (10, [.ref (a1 0), .ref q2, .null, .null, .null, .null, .null, .int 0])) :: ((([] ++ gq_shw cI cJ a1 gq_S0) ++ W2) ++ W3)) rfl ?_
  refine gq_putF hC (kf := 2) 0 ((q, .inr (10, [.ref (a1 0), .ref q2, .ref q3, .null, .null, .null, .null, .int 0])) :: ((([] ++ gq_shw cI cJ a1 gq_S0) ++ W2) ++ W3)) hnm tyX10 tyX10_ok nmX10 hin_X10 rfl rfl (by decide) (show Cond.fieldLink RX10 26 (TX10 2).1 (TX10 2).2.1 (TX10 2).2.2.1 ∈ wsX10_init from List.mem_of_getElem? (i := 15) rfl) rfl rfl rfl rfl (by decide) dX10_init_34 rfl ?_
  refine gq_aload_n hC 0 dX10_init_37 rfl rfl ?_
  refine gq_newC hC hN (ci := 0) tyX0 (fun w h => List.mem_cons_of_mem _ (List.mem_append_left _ (List.mem_append_left _ (List.mem_append_left _ (List.mem_append_left _ (List.mem_append_left _ (List.mem_append_left _ (List.mem_append_right _ h)))))))) tyX0_ok rfl (fun j hj => by rcases (show j = 0 ∨ j = 1 ∨ j = 2 ∨ j = 3 ∨ j = 4 ∨ j = 5 ∨ j = 6 ∨ j = 7 ∨ j = 8 ∨ j = 9 ∨ j = 10 ∨ j = 11 ∨ j = 12 ∨ j = 13 ∨ j = 14 by omega) with rfl | rfl | rfl | rfl | rfl | rfl | rfl | rfl | rfl | rfl | rfl | rfl | rfl | rfl | rfl <;> rfl) ⟨(List.mem_of_getElem? (i := 16) rfl), (List.mem_of_getElem? (i := 17) rfl), (List.mem_of_getElem? (i := 18) rfl)⟩ (fun q9 => kc_X0 l D cI cJ cZ cO z q9) gX10_init_X0_init_n32 rfl ⟨rfl, rfl⟩ ⟨rfl, rfl⟩ (by decide +kernel) (List.mem_of_getElem? (i := 91) rfl) (Or.inl (hN.1 (RX10, 32, yX0_init) (by simp [gq_nl]))) ⟨Nat.le_of_ble_eq_true rfl, Nat.le_of_ble_eq_true rfl⟩ ⟨Nat.le_of_ble_eq_true rfl, Nat.le_of_ble_eq_true rfl⟩ (Nat.le_of_ble_eq_true rfl) dX10_init_38 dX10_init_41 dX10_init_42 (fun q4 W9 h9 => ?_)
  have hC := gq_at (k' := 185) (n' := 6708) hC ⟨Nat.le_of_ble_eq_true rfl, Nat.le_of_ble_eq_true rfl⟩
  obtain ⟨W4, W4e⟩ : ∃ w, w = W9 := ⟨_, rfl⟩
  rw [← W4e] at h9 ⊢
  have hW4 := h9
  refine gq_wld ((q, .inr (10, [.ref (a1 0), .ref q2, .ref q3, .null, .null, .null, .null, .int 0])) :: (((([] ++ gq_shw cI cJ a1 gq_S0) ++ W2) ++ W3) ++ W4)) rfl ?_
  refine gq_putF hC (kf := 3) 0 ((q, .inr (10, [.ref (a1 0), .ref q2, .ref q3, .ref q4, .null, .null, .null, .int 0])) :: (((([] ++ gq_shw cI cJ a1 gq_S0) ++ W2) ++ W3) ++ W4)) hnm tyX10 tyX10_ok nmX10 hin_X10 rfl rfl (by decide) (show Cond.fieldLink RX10 33 (TX10 3).1 (TX10 3).2.1 (TX10 3).2.2.1 ∈ wsX10_init from List.mem_of_getElem? (i := 19) rfl) rfl rfl rfl rfl (by decide) dX10_init_45 rfl ?_
  refine gq_aload_n hC 0 dX10_init_48 rfl rfl ?_
  refine gq_newC hC hN (ci := 4) tyX4 (fun w h => List.mem_cons_of_mem _ (List.mem_append_left _ (List.mem_append_left _ (List.mem_append_left _ (List.mem_append_left _ (List.mem_append_left _ (List.mem_append_right _ h))))))) tyX4_ok rfl (fun j hj => by rcases (show j = 0 ∨ j = 1 ∨ j = 2 ∨ j = 3 ∨ j = 4 ∨ j = 5 by omega) with rfl | rfl | rfl | rfl | rfl | rfl <;> rfl) ⟨(List.mem_of_getElem? (i := 20) rfl), (List.mem_of_getElem? (i := 21) rfl), (List.mem_of_getElem? (i := 22) rfl)⟩ (fun q9 => kc_X4 l D cI cJ cZ cO z q9) gX10_init_X4_init_n39 rfl ⟨rfl, rfl⟩ ⟨rfl, rfl⟩ (by decide +kernel) (List.mem_of_getElem? (i := 104) rfl) (Or.inl (hN.1 (RX10, 39, yX4_init) (by simp [gq_nl]))) ⟨Nat.le_of_ble_eq_true rfl, Nat.le_of_ble_eq_true rfl⟩ ⟨Nat.le_of_ble_eq_true rfl, Nat.le_of_ble_eq_true rfl⟩ (Nat.le_of_ble_eq_true rfl) dX10_init_49 dX10_init_52 dX10_init_53 (fun q5 W9 h9 => ?_)
  have hC := gq_at (k' := 190) (n' := 6936) hC ⟨Nat.le_of_ble_eq_true rfl, Nat.le_of_ble_eq_true rfl⟩
  obtain ⟨W5, W5e⟩ : ∃ w, w = W9 := ⟨_, rfl⟩
  rw [← W5e] at h9 ⊢
  have hW5 := h9
  refine gq_wld ((q, .inr (10, [.ref (a1 0), .ref q2, .ref q3, .ref q4, .null, .null, .null, .int 0])) :: ((((([] ++ gq_shw cI cJ a1 gq_S0) ++ W2) ++ W3) ++ W4) ++ W5)) rfl ?_
  refine gq_putF hC (kf := 4) 0 ((q, .inr (10, [.ref (a1 0), .ref q2, .ref q3, .ref q4, .ref q5, .null, .null, .int 0])) :: ((((([] ++ gq_shw cI cJ a1 gq_S0) ++ W2) ++ W3) ++ W4) ++ W5)) hnm tyX10 tyX10_ok nmX10 hin_X10 rfl rfl (by decide) (show Cond.fieldLink RX10 40 (TX10 4).1 (TX10 4).2.1 (TX10 4).2.2.1 ∈ wsX10_init from List.mem_of_getElem? (i := 23) rfl) rfl rfl rfl rfl (by decide) dX10_init_56 rfl ?_
  refine gq_aload_n hC 0 dX10_init_59 rfl rfl ?_
  refine gq_newC hC hN (ci := 8) tyX8 (fun w h => List.mem_cons_of_mem _ (List.mem_append_left _ (List.mem_append_left _ (List.mem_append_left _ (List.mem_append_left _ (List.mem_append_right _ h)))))) tyX8_ok rfl (fun j hj => by rcases (show j = 0 ∨ j = 1 by omega) with rfl | rfl <;> rfl) ⟨(List.mem_of_getElem? (i := 24) rfl), (List.mem_of_getElem? (i := 25) rfl), (List.mem_of_getElem? (i := 26) rfl)⟩ (fun q9 => kc_X8 l D cI cJ cZ cO z q9) gX10_init_X8_init_n46 rfl ⟨rfl, rfl⟩ ⟨rfl, rfl⟩ (by decide +kernel) (List.mem_of_getElem? (i := 112) rfl) (Or.inl (hN.1 (RX10, 46, yX8_init) (by simp [gq_nl]))) ⟨Nat.le_of_ble_eq_true rfl, Nat.le_of_ble_eq_true rfl⟩ ⟨Nat.le_of_ble_eq_true rfl, Nat.le_of_ble_eq_true rfl⟩ (Nat.le_of_ble_eq_true rfl) dX10_init_60 dX10_init_63 dX10_init_64 (fun q6 W9 h9 => ?_)
  have hC := gq_at (k' := 193) (n' := 7730) hC ⟨Nat.le_of_ble_eq_true rfl, Nat.le_of_ble_eq_true rfl⟩
  obtain ⟨W6, W6e⟩ : ∃ w, w = W9 := ⟨_, rfl⟩
  rw [← W6e] at h9 ⊢
  have hW6 := h9
  refine gq_wld ((q, .inr (10, [.ref (a1 0), .ref q2, .ref q3, .ref q4, .ref q5, .null, .null, .int 0])) :: (((((([] ++ gq_shw cI cJ a1 gq_S0) ++ W2) ++ W3) ++ W4) ++ W5) ++ W6)) rfl ?_
  refine gq_putF hC (kf := 5) 0 ((q, .inr (10, [.ref (a1 0), .ref q2, .ref q3, .ref q4, .ref q5, .ref q6, .null, .int 0])) :: (((((([] ++ gq_shw cI cJ a1 gq_S0) ++ W2) ++ W3) ++ W4) ++ W5) ++ W6)) hnm tyX10 tyX10_ok nmX10 hin_X10 rfl rfl (by decide) (show Cond.fieldLink RX10 47 (TX10 5).1 (TX10 5).2.1 (TX10 5).2.2.1 ∈ wsX10_init from List.mem_of_getElem? (i := 27) rfl) rfl rfl rfl rfl (by decide) dX10_init_67 rfl ?_
  refine gq_aload_n hC 0 dX10_init_70 rfl rfl ?_
  refine gq_newC hC hN (ci := 3) tyX3 (fun w h => List.mem_cons_of_mem _ (List.mem_append_left _ (List.mem_append_left _ (List.mem_append_left _ (List.mem_append_right _ h))))) tyX3_ok rfl (fun j hj => by rcases (show j = 0 ∨ j = 1 by omega) with rfl | rfl <;> rfl) ⟨(List.mem_of_getElem? (i := 28) rfl), (List.mem_of_getElem? (i := 29) rfl), (List.mem_of_getElem? (i := 30) rfl)⟩ (fun q9 => kc_X3 l D cI cJ cZ cO z q9) gX10_init_X3_init_n53 rfl ⟨rfl, rfl⟩ ⟨rfl, rfl⟩ (by decide +kernel) (List.mem_of_getElem? (i := 117) rfl) (Or.inl (hN.1 (RX10, 53, yX3_init) (by simp [gq_nl]))) ⟨Nat.le_of_ble_eq_true rfl, Nat.le_of_ble_eq_true rfl⟩ ⟨Nat.le_of_ble_eq_true rfl, Nat.le_of_ble_eq_true rfl⟩ (Nat.le_of_ble_eq_true rfl) dX10_init_71 dX10_init_74 dX10_init_75 (fun q7 W9 h9 => ?_)
  have hC := gq_at (k' := 195) (n' := 8788) hC ⟨Nat.le_of_ble_eq_true rfl, Nat.le_of_ble_eq_true rfl⟩
  obtain ⟨W7, W7e⟩ : ∃ w, w = W9 := ⟨_, rfl⟩
  rw [← W7e] at h9 ⊢
  have hW7 := h9
  refine gq_wld ((q, .inr (10, [.ref (a1 0), .ref q2, .ref q3, .ref q4, .ref q5, .ref q6, .null, .int 0])) :: ((((((([] ++ gq_shw cI cJ a1 gq_S0) ++ W2) ++ W3) ++ W4) ++ W5) ++ W6) ++ W7)) rfl ?_
  refine gq_putF hC (kf := 6) 0 ((q, .inr (10, [.ref (a1 0), .ref q2, .ref q3, .ref q4, .ref q5, .ref q6, .ref q7, .int 0])) :: ((((((([] ++ gq_shw cI cJ a1 gq_S0) ++ W2) ++ W3) ++ W4) ++ W5) ++ W6) ++ W7)) hnm tyX10 tyX10_ok nmX10 hin_X10 rfl rfl (by decide) (show Cond.fieldLink RX10 54 (TX10 6).1 (TX10 6).2.1 (TX10 6).2.2.1 ∈ wsX10_init from List.mem_of_getElem? (i := 31) rfl) rfl rfl rfl rfl (by decide) dX10_init_78 rfl ?_
  refine gq_aload_n hC 0 dX10_init_81 rfl rfl ?_
  refine gq_iconst hC 1 dX10_init_82 (by decide) ?_
  refine gq_put1 hC (kf := 7) 0 ((q, .inr (10, [.ref (a1 0), .ref q2, .ref q3, .ref q4, .ref q5, .ref q6, .ref q7, .int 1])) :: ((((((([] ++ gq_shw cI cJ a1 gq_S0) ++ W2) ++ W3) ++ W4) ++ W5) ++ W6) ++ W7)) tyX10 tyX10_ok nmX10 hin_X10 rfl rfl (by decide) (show Cond.fieldLink RX10 58 (TX10 7).1 (TX10 7).2.1 (TX10 7).2.2.1 ∈ wsX10_init from List.mem_of_getElem? (i := 32) rfl) rfl rfl rfl (by decide) dX10_init_83 rfl ?_
  exact gq_cret hC (Nat.le_of_ble_eq_true rfl) (Nat.le_of_ble_eq_true rfl) ⟨a1, q2, q3, q4, q5, q6, q7, W2, W3, W4, W5, W6, W7, hW2, hW3, hW4, hW5, hW6, hW7, rfl⟩ dX10_init_86
def PX11 (cI cJ cZ cO : ClassId) (q : Nat) (W : va_W) : Prop := ∃ (q1 q2 q3 q4 q5 q6 q7 q8 q9 q10 q11 q12 q13 : Nat) (fr ar : Nat → Int64), MR A0f ar ∧ W = [(q, .inr (11, [.ref q1, .ref q2, .ref q3, .int 0, .int 0, .ref q4, .int 0, .int 0, .int 0, .int 0, .int 0, .int 0, .int 0, .int (-1), .long 0, .ref q5, .ref q6, .ref q7, .ref q8, .ref q9, .int (-1), .int (-1), .ref q10, .ref q11, .ref q12, .ref q13, .int 0])), (q1, .inl (cJ, 499, .inr (.inl ar))), (q2, .inl (cJ, 499, .inr (.inl fr))), (q3, .inl (cJ, 3992, .inr (.inl (fun _ => 0)))), (q4, .inl (cI, 900, .inl (fun _ => 0))), (q5, .inl (cI, 33, .inl (fun _ => 0))), (q6, .inl (cI, 33, .inl (fun _ => 0))), (q7, .inl (cI, 33, .inl (fun _ => 0))), (q8, .inl (cI, 32, .inl (fun _ => 0))), (q9, .inl (cJ, 33, .inr (.inl (fun _ => 0)))), (q10, .inl (cI, 160, .inl (fun _ => 0))), (q11, .inl (cI, 5, .inl (fun _ => 0))), (q12, .inl (cZ, 32, .inl (fun _ => 0))), (q13, .inl (cI, 1200, .inl (fun _ => 0)))]
set_option maxHeartbeats 4000000 in
set_option maxRecDepth 100000 in
theorem kc_X11 (l : Launch) (D : va_G) (cI cJ cZ cO : ClassId) (z : Nat → Nat) (q : Nat) : Cv l yX11_init wsX11_init (rmC 2 13 7451) D (gq_ty cI cJ cZ cO) cI z [.ref q] [(q, .inr (11, [.null, .null, .null, .int 0, .int 0, .null, .int 0, .int 0, .int 0, .int 0, .int 0, .int 0, .int 0, .int 0, .long 0, .null, .null, .null, .null, .null, .int 0, .int 0, .null, .null, .null, .null, .int 0]))] (PX11 cI cJ cZ cO q) 13 7451 := by
  refine Cv.of (cc := cX11_init) (maxL := 1) (by decide) rfl rfl (Nat.le_of_ble_eq_true rfl) ?_
  intro p e s m args below meth c A hC hN hnm
  have hin_X11 : ∀ w ∈ wsX110, w ∈ wsX11_init := fun w h => List.mem_cons_of_mem _ (List.mem_append_right _ h)
  refine gq_loc [(0, .ref q)] rfl ?_
  obtain ⟨fr, f1, f2⟩ := q_begins (fr := fun _ => 0)
  obtain ⟨ar, g1, g2⟩ := q_becomes (a := fun _ => 0) f2
  refine gq_aload_n hC 0 dX11_init_0 rfl rfl ?_
  refine gq_oinit hC (List.mem_of_getElem? (i := 1) rfl) (List.mem_of_getElem? (i := 2) rfl) (List.mem_of_getElem? (i := 3) rfl) dX11_init_1 ⟨Nat.le_of_ble_eq_true rfl, Nat.le_of_ble_eq_true rfl⟩ ?_
  refine gq_aload_n hC 0 dX11_init_4 rfl rfl ?_
  refine gq_sipush hC 499 dX11_init_5 (by decide) ?_
  refine gq_newJ hC (N := 499) (t0 := 1) (List.mem_of_getElem? (i := 4) rfl) rfl (by decide) (by decide) (by decide) ⟨Nat.le_of_ble_eq_true rfl, Nat.le_of_ble_eq_true rfl⟩ dX11_init_8 (fun q1 => ?_)
  have hC := gq_at (k' := 1) (n' := 499) hC ⟨Nat.le_of_ble_eq_true rfl, Nat.le_of_ble_eq_true rfl⟩
  refine gq_wld ((q, .inr (11, [.null, .null, .null, .int 0, .int 0, .null, .int 0, .int 0, .int 0, .int 0, .int 0, .int 0, .int 0, .int 0, .long 0, .null, .null, .null, .null, .null, .int 0, .int 0, .null, .null, .null, .null, .int 0])) :: ([] ++ [(q1, .inl (cJ, 499, .inr (.inl (fun _ => 0))))])) rfl ?_
  refine gq_putF hC (kf := 0) 0 ((q, .inr (11, [.ref q1, .null, .null, .int 0, .int 0, .null, .int 0, .int 0, .int 0, .int 0, .int 0, .int 0, .int 0, .int 0, .long 0, .null, .null, .null, .null, .null, .int 0, .int 0, .null, .null, .null, .null, .int 0])) :: ([] ++ [(q1, .inl (cJ, 499, .inr (.inl (fun _ => 0))))])) hnm tyX11 tyX11_ok nmX11 hin_X11 rfl rfl (by decide) (show Cond.fieldLink RX11 9 (TX11 0).1 (TX11 0).2.1 (TX11 0).2.2.1 ∈ wsX11_init from List.mem_of_getElem? (i := 5) rfl) rfl rfl rfl rfl (by decide) dX11_init_10 rfl ?_
  refine gq_aload_n hC 0 dX11_init_13 rfl rfl ?_
  refine gq_sipush hC 499 dX11_init_14 (by decide) ?_
  refine gq_newJ hC (N := 499) (t0 := 1) (List.mem_of_getElem? (i := 4) rfl) rfl (by decide) (by decide) (by decide) ⟨Nat.le_of_ble_eq_true rfl, Nat.le_of_ble_eq_true rfl⟩ dX11_init_17 (fun q2 => ?_)
  have hC := gq_at (k' := 2) (n' := 998) hC ⟨Nat.le_of_ble_eq_true rfl, Nat.le_of_ble_eq_true rfl⟩
  refine gq_wld ((q, .inr (11, [.ref q1, .null, .null, .int 0, .int 0, .null, .int 0, .int 0, .int 0, .int 0, .int 0, .int 0, .int 0, .int 0, .long 0, .null, .null, .null, .null, .null, .int 0, .int 0, .null, .null, .null, .null, .int 0])) :: (([] ++ [(q1, .inl (cJ, 499, .inr (.inl (fun _ => 0))))]) ++ [(q2, .inl (cJ, 499, .inr (.inl (fun _ => 0))))])) rfl ?_
  refine gq_putF hC (kf := 1) 0 ((q, .inr (11, [.ref q1, .ref q2, .null, .int 0, .int 0, .null, .int 0, .int 0, .int 0, .int 0, .int 0, .int 0, .int 0, .int 0, .long 0, .null, .null, .null, .null, .null, .int 0, .int 0, .null, .null, .null, .null, .int 0])) :: (([] ++ [(q1, .inl (cJ, 499, .inr (.inl (fun _ => 0))))]) ++ [(q2, .inl (cJ, 499, .inr (.inl (fun _ => 0))))])) hnm tyX11 tyX11_ok nmX11 hin_X11 rfl rfl (by decide) (show Cond.fieldLink RX11 13 (TX11 1).1 (TX11 1).2.1 (TX11 1).2.2.1 ∈ wsX11_init from List.mem_of_getElem? (i := 6) rfl) rfl rfl rfl rfl (by decide) dX11_init_19 rfl ?_
  refine gq_aload_n hC 0 dX11_init_22 rfl rfl ?_
  refine gq_sipush hC 3992 dX11_init_23 (by decide) ?_
  refine gq_newJ hC (N := 3992) (t0 := 1) (List.mem_of_getElem? (i := 4) rfl) rfl (by decide) (by decide) (by decide) ⟨Nat.le_of_ble_eq_true rfl, Nat.le_of_ble_eq_true rfl⟩ dX11_init_26 (fun q3 => ?_)
  have hC := gq_at (k' := 3) (n' := 4990) hC ⟨Nat.le_of_ble_eq_true rfl, Nat.le_of_ble_eq_true rfl⟩
  refine gq_wld ((q, .inr (11, [.ref q1, .ref q2, .null, .int 0, .int 0, .null, .int 0, .int 0, .int 0, .int 0, .int 0, .int 0, .int 0, .int 0, .long 0, .null, .null, .null, .null, .null, .int 0, .int 0, .null, .null, .null, .null, .int 0])) :: ((([] ++ [(q1, .inl (cJ, 499, .inr (.inl (fun _ => 0))))]) ++ [(q2, .inl (cJ, 499, .inr (.inl (fun _ => 0))))]) ++ [(q3, .inl (cJ, 3992, .inr (.inl (fun _ => 0))))])) rfl ?_
  refine gq_putF hC (kf := 2) 0 ((q, .inr (11, [.ref q1, .ref q2, .ref q3, .int 0, .int 0, .null, .int 0, .int 0, .int 0, .int 0, .int 0, .int 0, .int 0, .int 0, .long 0, .null, .null, .null, .null, .null, .int 0, .int 0, .null, .null, .null, .null, .int 0])) :: ((([] ++ [(q1, .inl (cJ, 499, .inr (.inl (fun _ => 0))))]) ++ [(q2, .inl (cJ, 499, .inr (.inl (fun _ => 0))))]) ++ [(q3, .inl (cJ, 3992, .inr (.inl (fun _ => 0))))])) hnm tyX11 tyX11_ok nmX11 hin_X11 rfl rfl (by decide) (show Cond.fieldLink RX11 16 (TX11 2).1 (TX11 2).2.1 (TX11 2).2.2.1 ∈ wsX11_init from List.mem_of_getElem? (i := 7) rfl) rfl rfl rfl rfl (by decide) dX11_init_28 rfl ?_
  refine gq_aload_n hC 0 dX11_init_31 rfl rfl ?_
  refine gq_sipush hC 900 dX11_init_32 (by decide) ?_
  refine gq_newI hC (N := 900) (t0 := 0) (List.mem_of_getElem? (i := 8) rfl) rfl (by decide) (by decide) (by decide) ⟨Nat.le_of_ble_eq_true rfl, Nat.le_of_ble_eq_true rfl⟩ dX11_init_35 (fun q4 => ?_)
  have hC := gq_at (k' := 4) (n' := 5890) hC ⟨Nat.le_of_ble_eq_true rfl, Nat.le_of_ble_eq_true rfl⟩
  refine gq_wld ((q, .inr (11, [.ref q1, .ref q2, .ref q3, .int 0, .int 0, .null, .int 0, .int 0, .int 0, .int 0, .int 0, .int 0, .int 0, .int 0, .long 0, .null, .null, .null, .null, .null, .int 0, .int 0, .null, .null, .null, .null, .int 0])) :: (((([] ++ [(q1, .inl (cJ, 499, .inr (.inl (fun _ => 0))))]) ++ [(q2, .inl (cJ, 499, .inr (.inl (fun _ => 0))))]) ++ [(q3, .inl (cJ, 3992, .inr (.inl (fun _ => 0))))]) ++ [(q4, .inl (cI, 900, .inl (fun _ => 0)))])) rfl ?_
  refine gq_putF hC (kf := 5) 0 ((q, .inr (11, [.ref q1, .ref q2, .ref q3, .int 0, .int 0, .ref q4, .int 0, .int 0, .int 0, .int 0, .int 0, .int 0, .int 0, .int 0, .long 0, .null, .null, .null, .null, .null, .int 0, .int 0, .null, .null, .null, .null, .int 0])) :: (((([] ++ [(q1, .inl (cJ, 499, .inr (.inl (fun _ => 0))))]) ++ [(q2, .inl (cJ, 499, .inr (.inl (fun _ => 0))))]) ++ [(q3, .inl (cJ, 3992, .inr (.inl (fun _ => 0))))]) ++ [(q4, .inl (cI, 900, .inl (fun _ => 0)))])) hnm tyX11 tyX11_ok nmX11 hin_X11 rfl rfl (by decide) (show Cond.fieldLink RX11 19 (TX11 5).1 (TX11 5).2.1 (TX11 5).2.2.1 ∈ wsX11_init from List.mem_of_getElem? (i := 9) rfl) rfl rfl rfl rfl (by decide) dX11_init_37 rfl ?_
  refine gq_aload_n hC 0 dX11_init_40 rfl rfl ?_
  refine gq_iconst hC (-1) dX11_init_41 (by decide) ?_
  refine gq_put1 hC (kf := 13) 0 ((q, .inr (11, [.ref q1, .ref q2, .ref q3, .int 0, .int 0, .ref q4, .int 0, .int 0, .int 0, .int 0, .int 0, .int 0, .int 0, .int (-1), .long 0, .null, .null, .null, .null, .null, .int 0, .int 0, .null, .null, .null, .null, .int 0])) :: (((([] ++ [(q1, .inl (cJ, 499, .inr (.inl (fun _ => 0))))]) ++ [(q2, .inl (cJ, 499, .inr (.inl (fun _ => 0))))]) ++ [(q3, .inl (cJ, 3992, .inr (.inl (fun _ => 0))))]) ++ [(q4, .inl (cI, 900, .inl (fun _ => 0)))])) tyX11 tyX11_ok nmX11 hin_X11 rfl rfl (by decide) (show Cond.fieldLink RX11 23 (TX11 13).1 (TX11 13).2.1 (TX11 13).2.2.1 ∈ wsX11_init from List.mem_of_getElem? (i := 10) rfl) rfl rfl rfl (by decide) dX11_init_42 rfl ?_
  refine gq_aload_n hC 0 dX11_init_45 rfl rfl ?_
  refine gq_bipush hC 33 dX11_init_46 (by decide) ?_
  refine gq_newI hC (N := 33) (t0 := 0) (List.mem_of_getElem? (i := 8) rfl) rfl (by decide) (by decide) (by decide) ⟨Nat.le_of_ble_eq_true rfl, Nat.le_of_ble_eq_true rfl⟩ dX11_init_48 (fun q5 => ?_)
  have hC := gq_at (k' := 5) (n' := 5923) hC ⟨Nat.le_of_ble_eq_true rfl, Nat.le_of_ble_eq_true rfl⟩
  refine gq_wld ((q, .inr (11, [.ref q1, .ref q2, .ref q3, .int 0, .int 0, .ref q4, .int 0, .int 0, .int 0, .int 0, .int 0, .int 0, .int 0, .int (-1), .long 0, .null, .null, .null, .null, .null, .int 0, .int 0, .null, .null, .null, .null, .int 0])) :: ((((([] ++ [(q1, .inl (cJ, 499, .inr (.inl (fun _ => 0))))]) ++ [(q2, .inl (cJ, 499, .inr (.inl (fun _ => 0))))]) ++ [(q3, .inl (cJ, 3992, .inr (.inl (fun _ => 0))))]) ++ [(q4, .inl (cI, 900, .inl (fun _ => 0)))]) ++ [(q5, .inl (cI, 33, .inl (fun _ => 0)))])) rfl ?_
  refine gq_putF hC (kf := 15) 0 ((q, .inr (11, [.ref q1, .ref q2, .ref q3, .int 0, .int 0, .ref q4, .int 0, .int 0, .int 0, .int 0, .int 0, .int 0, .int 0, .int (-1), .long 0, .ref q5, .null, .null, .null, .null, .int 0, .int 0, .null, .null, .null, .null, .int 0])) :: ((((([] ++ [(q1, .inl (cJ, 499, .inr (.inl (fun _ => 0))))]) ++ [(q2, .inl (cJ, 499, .inr (.inl (fun _ => 0))))]) ++ [(q3, .inl (cJ, 3992, .inr (.inl (fun _ => 0))))]) ++ [(q4, .inl (cI, 900, .inl (fun _ => 0)))]) ++ [(q5, .inl (cI, 33, .inl (fun _ => 0)))])) hnm tyX11 tyX11_ok nmX11 hin_X11 rfl rfl (by decide) (show Cond.fieldLink RX11 27 (TX11 15).1 (TX11 15).2.1 (TX11 15).2.2.1 ∈ wsX11_init from List.mem_of_getElem? (i := 11) rfl) rfl rfl rfl rfl (by decide) dX11_init_50 rfl ?_
  refine gq_aload_n hC 0 dX11_init_53 rfl rfl ?_
  refine gq_bipush hC 33 dX11_init_54 (by decide) ?_
  refine gq_newI hC (N := 33) (t0 := 0) (List.mem_of_getElem? (i := 8) rfl) rfl (by decide) (by decide) (by decide) ⟨Nat.le_of_ble_eq_true rfl, Nat.le_of_ble_eq_true rfl⟩ dX11_init_56 (fun q6 => ?_)
  have hC := gq_at (k' := 6) (n' := 5956) hC ⟨Nat.le_of_ble_eq_true rfl, Nat.le_of_ble_eq_true rfl⟩
  refine gq_wld ((q, .inr (11, [.ref q1, .ref q2, .ref q3, .int 0, .int 0, .ref q4, .int 0, .int 0, .int 0, .int 0, .int 0, .int 0, .int 0, .int (-1), .long 0, .ref q5, .null, .null, .null, .null, .int 0, .int 0, .null, .null, .null, .null, .int 0])) :: (((((([] ++ [(q1, .inl (cJ, 499, .inr (.inl (fun _ => 0))))]) ++ [(q2, .inl (cJ, 499, .inr (.inl (fun _ => 0))))]) ++ [(q3, .inl (cJ, 3992, .inr (.inl (fun _ => 0))))]) ++ [(q4, .inl (cI, 900, .inl (fun _ => 0)))]) ++ [(q5, .inl (cI, 33, .inl (fun _ => 0)))]) ++ [(q6, .inl (cI, 33, .inl (fun _ => 0)))])) rfl ?_
  refine gq_putF hC (kf := 16) 0 ((q, .inr (11, [.ref q1, .ref q2, .ref q3, .int 0, .int 0, .ref q4, .int 0, .int 0, .int 0, .int 0, .int 0, .int 0, .int 0, .int (-1), .long 0, .ref q5, .ref q6, .null, .null, .null, .int 0, .int 0, .null, .null, .null, .null, .int 0])) :: (((((([] ++ [(q1, .inl (cJ, 499, .inr (.inl (fun _ => 0))))]) ++ [(q2, .inl (cJ, 499, .inr (.inl (fun _ => 0))))]) ++ [(q3, .inl (cJ, 3992, .inr (.inl (fun _ => 0))))]) ++ [(q4, .inl (cI, 900, .inl (fun _ => 0)))]) ++ [(q5, .inl (cI, 33, .inl (fun _ => 0)))]) ++ [(q6, .inl (cI, 33, .inl (fun _ => 0)))])) hnm tyX11 tyX11_ok nmX11 hin_X11 rfl rfl (by decide) (show Cond.fieldLink RX11 30 (TX11 16).1 (TX11 16).2.1 (TX11 16).2.2.1 ∈ wsX11_init from List.mem_of_getElem? (i := 12) rfl) rfl rfl rfl rfl (by decide) dX11_init_58 rfl ?_
  refine gq_aload_n hC 0 dX11_init_61 rfl rfl ?_
  refine gq_bipush hC 33 dX11_init_62 (by decide) ?_
  refine gq_newI hC (N := 33) (t0 := 0) (List.mem_of_getElem? (i := 8) rfl) rfl (by decide) (by decide) (by decide) ⟨Nat.le_of_ble_eq_true rfl, Nat.le_of_ble_eq_true rfl⟩ dX11_init_64 (fun q7 => ?_)
  have hC := gq_at (k' := 7) (n' := 5989) hC ⟨Nat.le_of_ble_eq_true rfl, Nat.le_of_ble_eq_true rfl⟩
  refine gq_wld ((q, .inr (11, [.ref q1, .ref q2, .ref q3, .int 0, .int 0, .ref q4, .int 0, .int 0, .int 0, .int 0, .int 0, .int 0, .int 0, .int (-1), .long 0, .ref q5, .ref q6, .null, .null, .null, .int 0, .int 0, .null, .null, .null, .null, .int 0])) :: ((((((([] ++ [(q1, .inl (cJ, 499, .inr (.inl (fun _ => 0))))]) ++ [(q2, .inl (cJ, 499, .inr (.inl (fun _ => 0))))]) ++ [(q3, .inl (cJ, 3992, .inr (.inl (fun _ => 0))))]) ++ [(q4, .inl (cI, 900, .inl (fun _ => 0)))]) ++ [(q5, .inl (cI, 33, .inl (fun _ => 0)))]) ++ [(q6, .inl (cI, 33, .inl (fun _ => 0)))]) ++ [(q7, .inl (cI, 33, .inl (fun _ => 0)))])) rfl ?_
  refine gq_putF hC (kf := 17) 0 ((q, .inr (11, [.ref q1, .ref q2, .ref q3, .int 0, .int 0, .ref q4, .int 0, .int 0, .int 0, .int 0, .int 0, .int 0, .int 0, .int (-1), .long 0, .ref q5, .ref q6, .ref q7, .null, .null, .int 0, .int 0, .null, .null, .null, .null, .int 0])) :: ((((((([] ++ [(q1, .inl (cJ, 499, .inr (.inl (fun _ => 0))))]) ++ [(q2, .inl (cJ, 499, .inr (.inl (fun _ => 0))))]) ++ [(q3, .inl (cJ, 3992, .inr (.inl (fun _ => 0))))]) ++ [(q4, .inl (cI, 900, .inl (fun _ => 0)))]) ++ [(q5, .inl (cI, 33, .inl (fun _ => 0)))]) ++ [(q6, .inl (cI, 33, .inl (fun _ => 0)))]) ++ [(q7, .inl (cI, 33, .inl (fun _ => 0)))])) hnm tyX11 tyX11_ok nmX11 hin_X11 rfl rfl (by decide) (show Cond.fieldLink RX11 33 (TX11 17).1 (TX11 17).2.1 (TX11 17).2.2.1 ∈ wsX11_init from List.mem_of_getElem? (i := 13) rfl) rfl rfl rfl rfl (by decide) dX11_init_66 rfl ?_
  refine gq_aload_n hC 0 dX11_init_69 rfl rfl ?_
  refine gq_bipush hC 32 dX11_init_70 (by decide) ?_
  refine gq_newI hC (N := 32) (t0 := 0) (List.mem_of_getElem? (i := 8) rfl) rfl (by decide) (by decide) (by decide) ⟨Nat.le_of_ble_eq_true rfl, Nat.le_of_ble_eq_true rfl⟩ dX11_init_72 (fun q8 => ?_)
  have hC := gq_at (k' := 8) (n' := 6021) hC ⟨Nat.le_of_ble_eq_true rfl, Nat.le_of_ble_eq_true rfl⟩
  refine gq_wld ((q, .inr (11, [.ref q1, .ref q2, .ref q3, .int 0, .int 0, .ref q4, .int 0, .int 0, .int 0, .int 0, .int 0, .int 0, .int 0, .int (-1), .long 0, .ref q5, .ref q6, .ref q7, .null, .null, .int 0, .int 0, .null, .null, .null, .null, .int 0])) :: (((((((([] ++ [(q1, .inl (cJ, 499, .inr (.inl (fun _ => 0))))]) ++ [(q2, .inl (cJ, 499, .inr (.inl (fun _ => 0))))]) ++ [(q3, .inl (cJ, 3992, .inr (.inl (fun _ => 0))))]) ++ [(q4, .inl (cI, 900, .inl (fun _ => 0)))]) ++ [(q5, .inl (cI, 33, .inl (fun _ => 0)))]) ++ [(q6, .inl (cI, 33, .inl (fun _ => 0)))]) ++ [(q7, .inl (cI, 33, .inl (fun _ => 0)))]) ++ [(q8, .inl (cI, 32, .inl (fun _ => 0)))])) rfl ?_
  refine gq_putF hC (kf := 18) 0 ((q, .inr (11, [.ref q1, .ref q2, .ref q3, .int 0, .int 0, .ref q4, .int 0, .int 0, .int 0, .int 0, .int 0, .int 0, .int 0, .int (-1), .long 0, .ref q5, .ref q6, .ref q7, .ref q8, .null, .int 0, .int 0, .null, .null, .null, .null, .int 0])) :: (((((((([] ++ [(q1, .inl (cJ, 499, .inr (.inl (fun _ => 0))))]) ++ [(q2, .inl (cJ, 499, .inr (.inl (fun _ => 0))))]) ++ [(q3, .inl (cJ, 3992, .inr (.inl (fun _ => 0))))]) ++ [(q4, .inl (cI, 900, .inl (fun _ => 0)))]) ++ [(q5, .inl (cI, 33, .inl (fun _ => 0)))]) ++ [(q6, .inl (cI, 33, .inl (fun _ => 0)))]) ++ [(q7, .inl (cI, 33, .inl (fun _ => 0)))]) ++ [(q8, .inl (cI, 32, .inl (fun _ => 0)))])) hnm tyX11 tyX11_ok nmX11 hin_X11 rfl rfl (by decide) (show Cond.fieldLink RX11 36 (TX11 18).1 (TX11 18).2.1 (TX11 18).2.2.1 ∈ wsX11_init from List.mem_of_getElem? (i := 14) rfl) rfl rfl rfl rfl (by decide) dX11_init_74 rfl ?_
  refine gq_aload_n hC 0 dX11_init_77 rfl rfl ?_
  refine gq_bipush hC 33 dX11_init_78 (by decide) ?_
  refine gq_newJ hC (N := 33) (t0 := 1) (List.mem_of_getElem? (i := 4) rfl) rfl (by decide) (by decide) (by decide) ⟨Nat.le_of_ble_eq_true rfl, Nat.le_of_ble_eq_true rfl⟩ dX11_init_80 (fun q9 => ?_)
  have hC := gq_at (k' := 9) (n' := 6054) hC ⟨Nat.le_of_ble_eq_true rfl, Nat.le_of_ble_eq_true rfl⟩
  refine gq_wld ((q, .inr (11, [.ref q1, .ref q2, .ref q3, .int 0, .int 0, .ref q4, .int 0, .int 0, .int 0, .int 0, .int 0, .int 0, .int 0, .int (-1), .long 0, .ref q5, .ref q6, .ref q7, .ref q8, .null, .int 0, .int 0, .null, .null, .null, .null, .int 0])) :: ((((((((([] ++ [(q1, .inl (cJ, 499, .inr (.inl (fun _ => 0))))]) ++ [(q2, .inl (cJ, 499, .inr (.inl (fun _ => 0))))]) ++ [(q3, .inl (cJ, 3992, .inr (.inl (fun _ => 0))))]) ++ [(q4, .inl (cI, 900, .inl (fun _ => 0)))]) ++ [(q5, .inl (cI, 33, .inl (fun _ => 0)))]) ++ [(q6, .inl (cI, 33, .inl (fun _ => 0)))]) ++ [(q7, .inl (cI, 33, .inl (fun _ => 0)))]) ++ [(q8, .inl (cI, 32, .inl (fun _ => 0)))]) ++ [(q9, .inl (cJ, 33, .inr (.inl (fun _ => 0))))])) rfl ?_
  refine gq_putF hC (kf := 19) 0 ((q, .inr (11, [.ref q1, .ref q2, .ref q3, .int 0, .int 0, .ref q4, .int 0, .int 0, .int 0, .int 0, .int 0, .int 0, .int 0, .int (-1), .long 0, .ref q5, .ref q6, .ref q7, .ref q8, .ref q9, .int 0, .int 0, .null, .null, .null, .null, .int 0])) :: ((((((((([] ++ [(q1, .inl (cJ, 499, .inr (.inl (fun _ => 0))))]) ++ [(q2, .inl (cJ, 499, .inr (.inl (fun _ => 0))))]) ++ [(q3, .inl (cJ, 3992, .inr (.inl (fun _ => 0))))]) ++ [(q4, .inl (cI, 900, .inl (fun _ => 0)))]) ++ [(q5, .inl (cI, 33, .inl (fun _ => 0)))]) ++ [(q6, .inl (cI, 33, .inl (fun _ => 0)))]) ++ [(q7, .inl (cI, 33, .inl (fun _ => 0)))]) ++ [(q8, .inl (cI, 32, .inl (fun _ => 0)))]) ++ [(q9, .inl (cJ, 33, .inr (.inl (fun _ => 0))))])) hnm tyX11 tyX11_ok nmX11 hin_X11 rfl rfl (by decide) (show Cond.fieldLink RX11 39 (TX11 19).1 (TX11 19).2.1 (TX11 19).2.2.1 ∈ wsX11_init from List.mem_of_getElem? (i := 15) rfl) rfl rfl rfl rfl (by decide) dX11_init_82 rfl ?_
  refine gq_aload_n hC 0 dX11_init_85 rfl rfl ?_
  refine gq_iconst hC (-1) dX11_init_86 (by decide) ?_
  refine gq_put1 hC (kf := 20) 0 ((q, .inr (11, [.ref q1, .ref q2, .ref q3, .int 0, .int 0, .ref q4, .int 0, .int 0, .int 0, .int 0, .int 0, .int 0, .int 0, .int (-1), .long 0, .ref q5, .ref q6, .ref q7, .ref q8, .ref q9, .int (-1), .int 0, .null, .null, .null, .null, .int 0])) :: ((((((((([] ++ [(q1, .inl (cJ, 499, .inr (.inl (fun _ => 0))))]) ++ [(q2, .inl (cJ, 499, .inr (.inl (fun _ => 0))))]) ++ [(q3, .inl (cJ, 3992, .inr (.inl (fun _ => 0))))]) ++ [(q4, .inl (cI, 900, .inl (fun _ => 0)))]) ++ [(q5, .inl (cI, 33, .inl (fun _ => 0)))]) ++ [(q6, .inl (cI, 33, .inl (fun _ => 0)))]) ++ [(q7, .inl (cI, 33, .inl (fun _ => 0)))]) ++ [(q8, .inl (cI, 32, .inl (fun _ => 0)))]) ++ [(q9, .inl (cJ, 33, .inr (.inl (fun _ => 0))))])) tyX11 tyX11_ok nmX11 hin_X11 rfl rfl (by decide) (show Cond.fieldLink RX11 42 (TX11 20).1 (TX11 20).2.1 (TX11 20).2.2.1 ∈ wsX11_init from List.mem_of_getElem? (i := 16) rfl) rfl rfl rfl (by decide) dX11_init_87 rfl ?_
  refine gq_aload_n hC 0 dX11_init_90 rfl rfl ?_
  refine gq_iconst hC (-1) dX11_init_91 (by decide) ?_
  refine gq_put1 hC (kf := 21) 0 ((q, .inr (11, [.ref q1, .ref q2, .ref q3, .int 0, .int 0, .ref q4, .int 0, .int 0, .int 0, .int 0, .int 0, .int 0, .int 0, .int (-1), .long 0, .ref q5, .ref q6, .ref q7, .ref q8, .ref q9, .int (-1), .int (-1), .null, .null, .null, .null, .int 0])) :: ((((((((([] ++ [(q1, .inl (cJ, 499, .inr (.inl (fun _ => 0))))]) ++ [(q2, .inl (cJ, 499, .inr (.inl (fun _ => 0))))]) ++ [(q3, .inl (cJ, 3992, .inr (.inl (fun _ => 0))))]) ++ [(q4, .inl (cI, 900, .inl (fun _ => 0)))]) ++ [(q5, .inl (cI, 33, .inl (fun _ => 0)))]) ++ [(q6, .inl (cI, 33, .inl (fun _ => 0)))]) ++ [(q7, .inl (cI, 33, .inl (fun _ => 0)))]) ++ [(q8, .inl (cI, 32, .inl (fun _ => 0)))]) ++ [(q9, .inl (cJ, 33, .inr (.inl (fun _ => 0))))])) tyX11 tyX11_ok nmX11 hin_X11 rfl rfl (by decide) (show Cond.fieldLink RX11 45 (TX11 21).1 (TX11 21).2.1 (TX11 21).2.2.1 ∈ wsX11_init from List.mem_of_getElem? (i := 17) rfl) rfl rfl rfl (by decide) dX11_init_92 rfl ?_
  refine gq_aload_n hC 0 dX11_init_95 rfl rfl ?_
  refine gq_sipush hC 160 dX11_init_96 (by decide) ?_
  refine gq_newI hC (N := 160) (t0 := 0) (List.mem_of_getElem? (i := 8) rfl) rfl (by decide) (by decide) (by decide) ⟨Nat.le_of_ble_eq_true rfl, Nat.le_of_ble_eq_true rfl⟩ dX11_init_99 (fun q10 => ?_)
  have hC := gq_at (k' := 10) (n' := 6214) hC ⟨Nat.le_of_ble_eq_true rfl, Nat.le_of_ble_eq_true rfl⟩
  refine gq_wld ((q, .inr (11, [.ref q1, .ref q2, .ref q3, .int 0, .int 0, .ref q4, .int 0, .int 0, .int 0, .int 0, .int 0, .int 0, .int 0, .int (-1), .long 0, .ref q5, .ref q6, .ref q7, .ref q8, .ref q9, .int (-1), .int (-1), .null, .null, .null, .null, .int 0])) :: (((((((((([] ++ [(q1, .inl (cJ, 499, .inr (.inl (fun _ => 0))))]) ++ [(q2, .inl (cJ, 499, .inr (.inl (fun _ => 0))))]) ++ [(q3, .inl (cJ, 3992, .inr (.inl (fun _ => 0))))]) ++ [(q4, .inl (cI, 900, .inl (fun _ => 0)))]) ++ [(q5, .inl (cI, 33, .inl (fun _ => 0)))]) ++ [(q6, .inl (cI, 33, .inl (fun _ => 0)))]) ++ [(q7, .inl (cI, 33, .inl (fun _ => 0)))]) ++ [(q8, .inl (cI, 32, .inl (fun _ => 0)))]) ++ [(q9, .inl (cJ, 33, .inr (.inl (fun _ => 0))))]) ++ [(q10, .inl (cI, 160, .inl (fun _ => 0)))])) rfl ?_
  refine gq_putF hC (kf := 22) 0 ((q, .inr (11, [.ref q1, .ref q2, .ref q3, .int 0, .int 0, .ref q4, .int 0, .int 0, .int 0, .int 0, .int 0, .int 0, .int 0, .int (-1), .long 0, .ref q5, .ref q6, .ref q7, .ref q8, .ref q9, .int (-1), .int (-1), .ref q10, .null, .null, .null, .int 0])) :: (((((((((([] ++ [(q1, .inl (cJ, 499, .inr (.inl (fun _ => 0))))]) ++ [(q2, .inl (cJ, 499, .inr (.inl (fun _ => 0))))]) ++ [(q3, .inl (cJ, 3992, .inr (.inl (fun _ => 0))))]) ++ [(q4, .inl (cI, 900, .inl (fun _ => 0)))]) ++ [(q5, .inl (cI, 33, .inl (fun _ => 0)))]) ++ [(q6, .inl (cI, 33, .inl (fun _ => 0)))]) ++ [(q7, .inl (cI, 33, .inl (fun _ => 0)))]) ++ [(q8, .inl (cI, 32, .inl (fun _ => 0)))]) ++ [(q9, .inl (cJ, 33, .inr (.inl (fun _ => 0))))]) ++ [(q10, .inl (cI, 160, .inl (fun _ => 0)))])) hnm tyX11 tyX11_ok nmX11 hin_X11 rfl rfl (by decide) (show Cond.fieldLink RX11 48 (TX11 22).1 (TX11 22).2.1 (TX11 22).2.2.1 ∈ wsX11_init from List.mem_of_getElem? (i := 18) rfl) rfl rfl rfl rfl (by decide) dX11_init_101 rfl ?_
  refine gq_aload_n hC 0 dX11_init_104 rfl rfl ?_
  refine gq_iconst hC 5 dX11_init_105 (by decide) ?_
  refine gq_newI hC (N := 5) (t0 := 0) (List.mem_of_getElem? (i := 8) rfl) rfl (by decide) (by decide) (by decide) ⟨Nat.le_of_ble_eq_true rfl, Nat.le_of_ble_eq_true rfl⟩ dX11_init_106 (fun q11 => ?_)
  have hC := gq_at (k' := 11) (n' := 6219) hC ⟨Nat.le_of_ble_eq_true rfl, Nat.le_of_ble_eq_true rfl⟩
  refine gq_wld ((q, .inr (11, [.ref q1, .ref q2, .ref q3, .int 0, .int 0, .ref q4, .int 0, .int 0, .int 0, .int 0, .int 0, .int 0, .int 0, .int (-1), .long 0, .ref q5, .ref q6, .ref q7, .ref q8, .ref q9, .int (-1), .int (-1), .ref q10, .null, .null, .null, .int 0])) :: ((((((((((([] ++ [(q1, .inl (cJ, 499, .inr (.inl (fun _ => 0))))]) ++ [(q2, .inl (cJ, 499, .inr (.inl (fun _ => 0))))]) ++ [(q3, .inl (cJ, 3992, .inr (.inl (fun _ => 0))))]) ++ [(q4, .inl (cI, 900, .inl (fun _ => 0)))]) ++ [(q5, .inl (cI, 33, .inl (fun _ => 0)))]) ++ [(q6, .inl (cI, 33, .inl (fun _ => 0)))]) ++ [(q7, .inl (cI, 33, .inl (fun _ => 0)))]) ++ [(q8, .inl (cI, 32, .inl (fun _ => 0)))]) ++ [(q9, .inl (cJ, 33, .inr (.inl (fun _ => 0))))]) ++ [(q10, .inl (cI, 160, .inl (fun _ => 0)))]) ++ [(q11, .inl (cI, 5, .inl (fun _ => 0)))])) rfl ?_
  refine gq_putF hC (kf := 23) 0 ((q, .inr (11, [.ref q1, .ref q2, .ref q3, .int 0, .int 0, .ref q4, .int 0, .int 0, .int 0, .int 0, .int 0, .int 0, .int 0, .int (-1), .long 0, .ref q5, .ref q6, .ref q7, .ref q8, .ref q9, .int (-1), .int (-1), .ref q10, .ref q11, .null, .null, .int 0])) :: ((((((((((([] ++ [(q1, .inl (cJ, 499, .inr (.inl (fun _ => 0))))]) ++ [(q2, .inl (cJ, 499, .inr (.inl (fun _ => 0))))]) ++ [(q3, .inl (cJ, 3992, .inr (.inl (fun _ => 0))))]) ++ [(q4, .inl (cI, 900, .inl (fun _ => 0)))]) ++ [(q5, .inl (cI, 33, .inl (fun _ => 0)))]) ++ [(q6, .inl (cI, 33, .inl (fun _ => 0)))]) ++ [(q7, .inl (cI, 33, .inl (fun _ => 0)))]) ++ [(q8, .inl (cI, 32, .inl (fun _ => 0)))]) ++ [(q9, .inl (cJ, 33, .inr (.inl (fun _ => 0))))]) ++ [(q10, .inl (cI, 160, .inl (fun _ => 0)))]) ++ [(q11, .inl (cI, 5, .inl (fun _ => 0)))])) hnm tyX11 tyX11_ok nmX11 hin_X11 rfl rfl (by decide) (show Cond.fieldLink RX11 51 (TX11 23).1 (TX11 23).2.1 (TX11 23).2.2.1 ∈ wsX11_init from List.mem_of_getElem? (i := 19) rfl) rfl rfl rfl rfl (by decide) dX11_init_108 rfl ?_
  refine gq_aload_n hC 0 dX11_init_111 rfl rfl ?_
  refine gq_bipush hC 32 dX11_init_112 (by decide) ?_
  refine gq_newZ hC (N := 32) (t0 := 2) (List.mem_of_getElem? (i := 20) rfl) rfl (by decide) (by decide) (by decide) ⟨Nat.le_of_ble_eq_true rfl, Nat.le_of_ble_eq_true rfl⟩ dX11_init_114 (fun q12 => ?_)
  have hC := gq_at (k' := 12) (n' := 6251) hC ⟨Nat.le_of_ble_eq_true rfl, Nat.le_of_ble_eq_true rfl⟩
  refine gq_wld ((q, .inr (11, [.ref q1, .ref q2, .ref q3, .int 0, .int 0, .ref q4, .int 0, .int 0, .int 0, .int 0, .int 0, .int 0, .int 0, .int (-1), .long 0, .ref q5, .ref q6, .ref q7, .ref q8, .ref q9, .int (-1), .int (-1), .ref q10, .ref q11, .null, .null, .int 0])) :: (((((((((((([] ++ [(q1, .inl (cJ, 499, .inr (.inl (fun _ => 0))))]) ++ [(q2, .inl (cJ, 499, .inr (.inl (fun _ => 0))))]) ++ [(q3, .inl (cJ, 3992, .inr (.inl (fun _ => 0))))]) ++ [(q4, .inl (cI, 900, .inl (fun _ => 0)))]) ++ [(q5, .inl (cI, 33, .inl (fun _ => 0)))]) ++ [(q6, .inl (cI, 33, .inl (fun _ => 0)))]) ++ [(q7, .inl (cI, 33, .inl (fun _ => 0)))]) ++ [(q8, .inl (cI, 32, .inl (fun _ => 0)))]) ++ [(q9, .inl (cJ, 33, .inr (.inl (fun _ => 0))))]) ++ [(q10, .inl (cI, 160, .inl (fun _ => 0)))]) ++ [(q11, .inl (cI, 5, .inl (fun _ => 0)))]) ++ [(q12, .inl (cZ, 32, .inl (fun _ => 0)))])) rfl ?_
  refine gq_putF hC (kf := 24) 0 ((q, .inr (11, [.ref q1, .ref q2, .ref q3, .int 0, .int 0, .ref q4, .int 0, .int 0, .int 0, .int 0, .int 0, .int 0, .int 0, .int (-1), .long 0, .ref q5, .ref q6, .ref q7, .ref q8, .ref q9, .int (-1), .int (-1), .ref q10, .ref q11, .ref q12, .null, .int 0])) :: (((((((((((([] ++ [(q1, .inl (cJ, 499, .inr (.inl (fun _ => 0))))]) ++ [(q2, .inl (cJ, 499, .inr (.inl (fun _ => 0))))]) ++ [(q3, .inl (cJ, 3992, .inr (.inl (fun _ => 0))))]) ++ [(q4, .inl (cI, 900, .inl (fun _ => 0)))]) ++ [(q5, .inl (cI, 33, .inl (fun _ => 0)))]) ++ [(q6, .inl (cI, 33, .inl (fun _ => 0)))]) ++ [(q7, .inl (cI, 33, .inl (fun _ => 0)))]) ++ [(q8, .inl (cI, 32, .inl (fun _ => 0)))]) ++ [(q9, .inl (cJ, 33, .inr (.inl (fun _ => 0))))]) ++ [(q10, .inl (cI, 160, .inl (fun _ => 0)))]) ++ [(q11, .inl (cI, 5, .inl (fun _ => 0)))]) ++ [(q12, .inl (cZ, 32, .inl (fun _ => 0)))])) hnm tyX11 tyX11_ok nmX11 hin_X11 rfl rfl (by decide) (show Cond.fieldLink RX11 54 (TX11 24).1 (TX11 24).2.1 (TX11 24).2.2.1 ∈ wsX11_init from List.mem_of_getElem? (i := 21) rfl) rfl rfl rfl rfl (by decide) dX11_init_116 rfl ?_
  refine gq_aload_n hC 0 dX11_init_119 rfl rfl ?_
  refine gq_sipush hC 1200 dX11_init_120 (by decide) ?_
  refine gq_newI hC (N := 1200) (t0 := 0) (List.mem_of_getElem? (i := 8) rfl) rfl (by decide) (by decide) (by decide) ⟨Nat.le_of_ble_eq_true rfl, Nat.le_of_ble_eq_true rfl⟩ dX11_init_123 (fun q13 => ?_)
  have hC := gq_at (k' := 13) (n' := 7451) hC ⟨Nat.le_of_ble_eq_true rfl, Nat.le_of_ble_eq_true rfl⟩
  refine gq_wld ((q, .inr (11, [.ref q1, .ref q2, .ref q3, .int 0, .int 0, .ref q4, .int 0, .int 0, .int 0, .int 0, .int 0, .int 0, .int 0, .int (-1), .long 0, .ref q5, .ref q6, .ref q7, .ref q8, .ref q9, .int (-1), .int (-1), .ref q10, .ref q11, .ref q12, .null, .int 0])) :: ((((((((((((([] ++ [(q1, .inl (cJ, 499, .inr (.inl (fun _ => 0))))]) ++ [(q2, .inl (cJ, 499, .inr (.inl (fun _ => 0))))]) ++ [(q3, .inl (cJ, 3992, .inr (.inl (fun _ => 0))))]) ++ [(q4, .inl (cI, 900, .inl (fun _ => 0)))]) ++ [(q5, .inl (cI, 33, .inl (fun _ => 0)))]) ++ [(q6, .inl (cI, 33, .inl (fun _ => 0)))]) ++ [(q7, .inl (cI, 33, .inl (fun _ => 0)))]) ++ [(q8, .inl (cI, 32, .inl (fun _ => 0)))]) ++ [(q9, .inl (cJ, 33, .inr (.inl (fun _ => 0))))]) ++ [(q10, .inl (cI, 160, .inl (fun _ => 0)))]) ++ [(q11, .inl (cI, 5, .inl (fun _ => 0)))]) ++ [(q12, .inl (cZ, 32, .inl (fun _ => 0)))]) ++ [(q13, .inl (cI, 1200, .inl (fun _ => 0)))])) rfl ?_
  refine gq_putF hC (kf := 25) 0 ((q, .inr (11, [.ref q1, .ref q2, .ref q3, .int 0, .int 0, .ref q4, .int 0, .int 0, .int 0, .int 0, .int 0, .int 0, .int 0, .int (-1), .long 0, .ref q5, .ref q6, .ref q7, .ref q8, .ref q9, .int (-1), .int (-1), .ref q10, .ref q11, .ref q12, .ref q13, .int 0])) :: ((((((((((((([] ++ [(q1, .inl (cJ, 499, .inr (.inl (fun _ => 0))))]) ++ [(q2, .inl (cJ, 499, .inr (.inl (fun _ => 0))))]) ++ [(q3, .inl (cJ, 3992, .inr (.inl (fun _ => 0))))]) ++ [(q4, .inl (cI, 900, .inl (fun _ => 0)))]) ++ [(q5, .inl (cI, 33, .inl (fun _ => 0)))]) ++ [(q6, .inl (cI, 33, .inl (fun _ => 0)))]) ++ [(q7, .inl (cI, 33, .inl (fun _ => 0)))]) ++ [(q8, .inl (cI, 32, .inl (fun _ => 0)))]) ++ [(q9, .inl (cJ, 33, .inr (.inl (fun _ => 0))))]) ++ [(q10, .inl (cI, 160, .inl (fun _ => 0)))]) ++ [(q11, .inl (cI, 5, .inl (fun _ => 0)))]) ++ [(q12, .inl (cZ, 32, .inl (fun _ => 0)))]) ++ [(q13, .inl (cI, 1200, .inl (fun _ => 0)))])) hnm tyX11 tyX11_ok nmX11 hin_X11 rfl rfl (by decide) (show Cond.fieldLink RX11 58 (TX11 25).1 (TX11 25).2.1 (TX11 25).2.2.1 ∈ wsX11_init from List.mem_of_getElem? (i := 22) rfl) rfl rfl rfl rfl (by decide) dX11_init_125 rfl ?_
  refine gq_aload_n hC 0 dX11_init_128 rfl rfl ?_
  refine gq_callVv hC [0, 2] ((q, .inr (11, [.ref q1, .ref q2, .ref q3, .int 0, .int 0, .ref q4, .int 0, .int 0, .int 0, .int 0, .int 0, .int 0, .int 0, .int (-1), .long 0, .ref q5, .ref q6, .ref q7, .ref q8, .ref q9, .int (-1), .int (-1), .ref q10, .ref q11, .ref q12, .ref q13, .int 0])) :: ((((((((((((([] ++ [(q1, .inl (cJ, 499, .inr (.inl (fun _ => 0))))]) ++ [(q2, .inl (cJ, 499, .inr (.inl fr)))]) ++ [(q3, .inl (cJ, 3992, .inr (.inl (fun _ => 0))))]) ++ [(q4, .inl (cI, 900, .inl (fun _ => 0)))]) ++ [(q5, .inl (cI, 33, .inl (fun _ => 0)))]) ++ [(q6, .inl (cI, 33, .inl (fun _ => 0)))]) ++ [(q7, .inl (cI, 33, .inl (fun _ => 0)))]) ++ [(q8, .inl (cI, 32, .inl (fun _ => 0)))]) ++ [(q9, .inl (cJ, 33, .inr (.inl (fun _ => 0))))]) ++ [(q10, .inl (cI, 160, .inl (fun _ => 0)))]) ++ [(q11, .inl (cI, 5, .inl (fun _ => 0)))]) ++ [(q12, .inl (cZ, 32, .inl (fun _ => 0)))]) ++ [(q13, .inl (cI, 1200, .inl (fun _ => 0)))])) [] [] (k_X11_begins l D cI cJ cZ cO z q q2 q1 q3 q4 q5 q6 q7 q8 q9 q10 q11 q12 q13 (0) (0) (0) (0) (0) (0) (0) (0) (0) ((-1)) (0) ((-1)) ((-1)) (0) (fun _ => 0) fr f1) gX11_init_X11_begins rfl ⟨rfl, rfl⟩ hy_X11_begins ⟨Nat.le_of_ble_eq_true rfl, Nat.le_of_ble_eq_true rfl⟩ rfl rfl rfl (q0 := 0) rfl rfl rfl (Nat.le_of_ble_eq_true rfl) rfl dX11_init_129 rfl rfl ?_
  refine gq_aload_n hC 0 dX11_init_132 rfl rfl ?_
  refine gq_callVv hC [0, 1, 2] ((q, .inr (11, [.ref q1, .ref q2, .ref q3, .int 0, .int 0, .ref q4, .int 0, .int 0, .int 0, .int 0, .int 0, .int 0, .int 0, .int (-1), .long 0, .ref q5, .ref q6, .ref q7, .ref q8, .ref q9, .int (-1), .int (-1), .ref q10, .ref q11, .ref q12, .ref q13, .int 0])) :: ((((((((((((([] ++ [(q1, .inl (cJ, 499, .inr (.inl ar)))]) ++ [(q2, .inl (cJ, 499, .inr (.inl fr)))]) ++ [(q3, .inl (cJ, 3992, .inr (.inl (fun _ => 0))))]) ++ [(q4, .inl (cI, 900, .inl (fun _ => 0)))]) ++ [(q5, .inl (cI, 33, .inl (fun _ => 0)))]) ++ [(q6, .inl (cI, 33, .inl (fun _ => 0)))]) ++ [(q7, .inl (cI, 33, .inl (fun _ => 0)))]) ++ [(q8, .inl (cI, 32, .inl (fun _ => 0)))]) ++ [(q9, .inl (cJ, 33, .inr (.inl (fun _ => 0))))]) ++ [(q10, .inl (cI, 160, .inl (fun _ => 0)))]) ++ [(q11, .inl (cI, 5, .inl (fun _ => 0)))]) ++ [(q12, .inl (cZ, 32, .inl (fun _ => 0)))]) ++ [(q13, .inl (cI, 1200, .inl (fun _ => 0)))])) [] [] (k_X11_becomes l D cI cJ cZ cO z q q1 q2 q3 q4 q5 q6 q7 q8 q9 q10 q11 q12 q13 (0) (0) (0) (0) (0) (0) (0) (0) (0) ((-1)) (0) ((-1)) ((-1)) (0) (fun _ => 0) fr ar g1) gX11_init_X11_becomes rfl ⟨rfl, rfl⟩ hy_X11_becomes ⟨Nat.le_of_ble_eq_true rfl, Nat.le_of_ble_eq_true rfl⟩ rfl rfl rfl (q0 := 0) rfl rfl rfl (Nat.le_of_ble_eq_true rfl) rfl dX11_init_133 rfl rfl ?_
  exact gq_cret hC (Nat.le_of_ble_eq_true rfl) (Nat.le_of_ble_eq_true rfl) ⟨q1, q2, q3, q4, q5, q6, q7, q8, q9, q10, q11, q12, q13, fr, ar, g2, rfl⟩ dX11_init_136
