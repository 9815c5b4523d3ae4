/-! ===== worlds with a pool behind them ===== -/
theorem gq_put_len : ∀ (is : List Nat) (new ws : va_W), (gq_put ws is new).length = ws.length := by
  intro is
  induction is with
  | nil => intro new ws; cases new <;> rfl
  | cons i is ih =>
    intro new ws
    cases new with
    | nil => rfl
    | cons q qs =>
      show (gq_put (ws.set i q) is qs).length = _
      rw [ih, List.length_set]
/-- what a callee's world is to its caller's, before and behind the call -/
def gq_J (ws WSc WSc' wsN : va_W) : Prop :=
  (∀ (D : va_G) (H : Heap), va_P D gq_cl ws H → va_P D gq_cl WSc H) ∧ (∀ A : Nat → Prop, va_D A ws → va_D A WSc) ∧
  ∀ (D : va_G) (A : Nat → Prop) (H H1 : Heap), va_P D gq_cl ws H → va_D A ws → (∀ q : Nat, q < H.size → ¬ va_A WSc H.size q → H1[q]? = H[q]?) → va_P D gq_cl WSc' H1 → va_P D gq_cl wsN H1 ∧ va_D A wsN
theorem gq_J.of {ws WSc WSc' wsN : va_W} (is : List Nat) (hcm : is.map (fun i => ws[i]?) = WSc.map some) (hnd : va_nd is = true) (ha : WSc'.map (fun q => q.1) = WSc.map (fun q => q.1)) (hnew : gq_put ws is WSc' = wsN) : gq_J ws WSc WSc' wsN :=
  ⟨fun _ _ h => h.sub is (gq_fm hcm), fun _ h => h.sub is hnd hcm, fun _ _ _ _ hP hD hk hP1 => hnew ▸ gq_join hP hD is hcm ha hk hP1⟩
/-- the same pool behind both -/
theorem gq_J.pool {X Y Y' XN P P' : va_W} (is : List Nat) (hcm : is.map (fun i => X[i]?) = Y.map some) (hnd : va_nd is = true) (ha : Y'.map (fun q => q.1) = Y.map (fun q => q.1)) (hap : P'.map (fun q => q.1) = P.map (fun q => q.1)) (hnew : gq_put X is Y' = XN) : gq_J (X ++ P) (Y ++ P) (Y' ++ P') (XN ++ P') := by
  subst hnew
  have hl1 : Y'.length = Y.length := by have := congrArg List.length ha; simpa using this
  have hlp : P'.length = P.length := by have := congrArg List.length hap; simpa using this
  have hli : is.length = Y.length := by have := congrArg List.length hcm; simpa using this
  have hat : ∀ (t i : Nat), is[t]? = some i → ∃ q, Y[t]? = some q ∧ X[i]? = some q := by
    intro t i h
    have h1 := congrArg (fun L => L[t]?) hcm
    simp only [List.getElem?_map, h, Option.map_some] at h1
    cases hw : Y[t]? with
    | none => rw [hw] at h1; simp at h1
    | some q => rw [hw] at h1; simp at h1; exact ⟨q, rfl, h1⟩
  refine ⟨fun D H h => h.part is hcm, fun A h => h.part is hnd hcm, fun D A H H1 hP hD hk hP1 => ?_⟩
  have hadr : ∀ (U V : va_W), V.map (fun q => q.1) = U.map (fun q => q.1) → ∀ (t : Nat) (q : Nat × va_E), V[t]? = some q → ∃ q' : Nat × va_E, U[t]? = some q' ∧ q'.1 = q.1 := by
    intro U V hUV t q h
    have h1 := congrArg (fun L => L[t]?) hUV
    simp only [List.getElem?_map, h, Option.map_some] at h1
    cases hw : U[t]? with
    | none => rw [hw] at h1; simp at h1
    | some q' => rw [hw] at h1; simp at h1; exact ⟨q', rfl, h1.symm⟩
  -- where a cell of the new world comes from
  have hfrom : ∀ (j : Nat) (q : Nat × va_E), (gq_put X is Y' ++ P')[j]? = some q → (∃ t : Nat, (Y' ++ P')[t]? = some q ∧ ∃ q0 : Nat × va_E, (X ++ P)[j]? = some q0 ∧ q0.1 = q.1 ∧ (Y ++ P)[t]? = some q0) ∨ ((X ++ P)[j]? = some q ∧ j < X.length ∧ j ∉ is) := by
    intro j q h
    by_cases hj : j < X.length
    · rw [List.getElem?_append_left (by rw [gq_put_len]; exact hj)] at h
      rcases gq_put_get is Y' X j q (by rw [hli, hl1]) h with ⟨t, h1, h2⟩ | ⟨h1, h2⟩
      · obtain ⟨q0, g1, g2⟩ := hat t j h1
        obtain ⟨q1, g3, g4⟩ := hadr Y Y' ha t q h2
        rw [g1] at g3; cases g3
        have ht : t < Y.length := (List.getElem?_eq_some_iff.mp g1).1
        exact Or.inl ⟨t, by rw [List.getElem?_append_left (by omega)]; exact h2, q0, by rw [List.getElem?_append_left hj]; exact g2, g4, by rw [List.getElem?_append_left ht]; exact g1⟩
      · exact Or.inr ⟨by rw [List.getElem?_append_left hj]; exact h2, hj, h1⟩
    · have hj : X.length ≤ j := Nat.not_lt.mp hj
      rw [List.getElem?_append_right (by rw [gq_put_len]; exact hj), gq_put_len] at h
      obtain ⟨q0, g1, g2⟩ := hadr P P' hap _ q h
      refine Or.inl ⟨Y.length + (j - X.length), ?_, q0, by rw [List.getElem?_append_right hj]; exact g1, g2, ?_⟩
      · rw [List.getElem?_append_right (by omega)]
        rw [show Y.length + (j - X.length) - Y'.length = j - X.length by omega]; exact h
      · rw [List.getElem?_append_right (by omega)]
        rw [show Y.length + (j - X.length) - Y.length = j - X.length by omega]; exact g1
  have hold : ∀ (j : Nat) (q : Nat × va_E), (gq_put X is Y' ++ P')[j]? = some q → ∃ q' : Nat × va_E, (X ++ P)[j]? = some q' ∧ q'.1 = q.1 := by
    intro j q h
    rcases hfrom j q h with ⟨t, -, q0, g1, g2, -⟩ | ⟨h1, -, -⟩
    · exact ⟨q0, g1, g2⟩
    · exact ⟨q, h1, rfl⟩
  refine ⟨fun j q h => ?_, fun i j x y hx hy hxy => ?_, fun j q h => ?_⟩
  · rcases hfrom j q h with ⟨t, h1, -⟩ | ⟨h1, hj, hni⟩
    · exact hP1 t q h1
    · have hat1 := hP j q h1
      refine hat1.kept (hk q.1 hat1.lt ?_)
      rintro (⟨t, ee, ht⟩ | hsz)
      · by_cases hty : t < Y.length
        · rw [List.getElem?_append_left hty] at ht
          cases hi : is[t]? with
          | none => exact absurd (List.getElem?_eq_none_iff.mp hi) (by omega)
          | some i =>
            obtain ⟨qc, g1, g2⟩ := hat t i hi
            rw [ht] at g1; cases g1
            have hil : i < X.length := (List.getElem?_eq_some_iff.mp g2).1
            have hij := hD.1 i j (q.1, ee) q (by rw [List.getElem?_append_left hil]; exact g2) h1 rfl
            subst hij
            exact hni (List.mem_of_getElem? hi)
        · have hty : Y.length ≤ t := Nat.not_lt.mp hty
          rw [List.getElem?_append_right hty] at ht
          have hij := hD.1 (X.length + (t - Y.length)) j (q.1, ee) q (by rw [List.getElem?_append_right (by omega)]; rw [show X.length + (t - Y.length) - X.length = t - Y.length by omega]; exact ht) h1 rfl
          omega
      · exact absurd hat1.lt (Nat.not_lt.mpr hsz)
  · obtain ⟨x', g1, g2⟩ := hold i x hx
    obtain ⟨y', g3, g4⟩ := hold j y hy
    exact hD.1 i j x' y' g1 g3 (by rw [g2, g4, hxy])
  · obtain ⟨q', g1, g2⟩ := hold j q h
    rw [← g2]
    exact hD.2 j q' g1
section GJR
variable {p : Program} {l : Launch} {e : Env} {R : Room} {s : State} {m : MethodId} {args : Array Value} {below : List Frame} {meth : Method} {c : Code} {D : va_G} {T : List (ClassId × FieldType)} {z : Nat → Nat} {A : Nat → Prop} {nL : Nat} {Q : State → Prop} {k n : Nat}
variable {cc : ByteArray} {own : String} {Ts : List Cond} {ret : Option FieldType}
variable {mc ms : Nat}
theorem gq_preJ (hC : Gc p R s m args meth c D T A nL cc own Ts ret k n z) {ws WSc WSc' wsN : va_W} {H : Heap} {As : List Value} {locs : List Loc} (hJ : gq_J ws WSc WSc' wsN) (hP : va_P D gq_cl ws H) (hD : va_D A ws) (hS : va_S A s.heap H locs) : (∀ U : State, U.heap = H → s.WarmedH U.vm → gq_Pc D T z As WSc H.size As.toArray U) ∧ ∀ q, va_A WSc H.size q → A q := by
  have hF : ∀ q, va_A WSc H.size q → A q := by
    rintro q (⟨k9, e9, h9⟩ | h9)
    · exact (hJ.2.1 A hD).2 k9 _ h9
    · exact hC.2.2.2.2.2.2.1 q (Nat.le_trans hS.1 h9)
  refine ⟨fun U hU hW => ?_, hF⟩
  exact ⟨rfl, by rw [hU], by rw [hU]; exact hJ.1 D H hP, hC.2.2.2.2.2.1.warm hW, (hJ.2.1 A hD).weaken (fun _ _ _ _ => trivial), by subst hU; exact hC.2.2.2.2.2.2.2.2.2.2.to hW hS.2.1 hS.1 hF⟩
section CalleeJ
variable {y : MethodName} {wy ws' : List Cond} {rm : Room} {As rest : List Value} {ws WSc WSc' wsN : va_W} {bytes : ByteArray} {maxL ix b nA pc q0 ci kc nc : Nat} {C : String} {q : vw_C} {fs : List Value} {lv : List (Nat × Value)} {st : List Value}
theorem gq_callJi {rt : FieldType} {r : Int32} (hC : Gc p R s m args meth c D T A nL cc own Ts ret k n z) (hJ : gq_J ws WSc WSc' wsN) (As : List Value) (rest : List Value) (hM : Mi l y wy rm D T z (.ref b :: As) WSc r WSc' 0 0) (hg : GoodIn Ts (wsV own ix C y wy)) (hw : wy = Cond.code y bytes maxL (some rt) :: ws') (hrm : rm.cells = 0 ∧ rm.slots = 0) (hy : y.cls = C ∧ y.cls ≠ "java/lang/invoke/MethodHandle" ∧ y.cls ≠ "java/lang/invoke/VarHandle" ∧ (parseMethodDescriptor y.desc).map (fun d => d.parameters.length) = some nA) (hR : rm.frames + 1 ≤ R.frames ∧ 8 + (maxL + 11) + rm.locals ≤ R.locals) (hrc : gq_cl[ci]? = some q) (hq : q.1 = C) (hrv : WSc[q0]? = some (b, .inr (ci, fs))) (hst : (rest.map fun v => v.category).sum ≤ 8) (hn : As.length = nA) (hd : decode cc pc = .ok (.invokevirtual ix, 3)) (hs0 : st = As.reverse ++ .ref b :: rest) (kk : Gx p l e R s m args below meth c D A nL Q k n (pc + 3) lv (.int r :: rest) wsN) : Gx p l e R s m args below meth c D A nL Q k n pc lv st ws := by
  subst hs0; subst hq
  intro H locs ls hP hD hS hl
  obtain ⟨hpre, hF⟩ := gq_preJ (As := .ref b :: As) hC hJ hP hD hS
  have hPc : va_P D gq_cl WSc H := hJ.1 D H hP
  refine va_calli (va_runV (As := As) (rest := rest) ⟨hC.1, hC.2.1, hC.2.2.1, hC.2.2.2.1, hC.2.2.2.2.1⟩ (hM H.size) (cwV nA hC.2.2.2.2.1 hg hw hrm.1 hrm.2 hy hR) ⟨gq_blind, va_recv hC.2.2.2.2.2.1.1 hPc hrc hrv, hpre⟩ rfl hn hl.1 rfl (lv_room hst) hd ⟨hC.2.2.2.2.2.2.2.1.1, hC.2.2.2.2.2.2.2.1.2⟩) hS (fun q _ h => hF q h) hF (fun r' u t H1 locs1 ht hvm hw2 hB hz1 hk1 hS1 => ?_)
  subst hw2
  rw [ht] at hB
  obtain ⟨hP2, hD2⟩ := hJ.2.2 D A H H1 hP hD hk1 hB
  exact kk H1 locs1 ls hP2 hD2 hS1 hl
theorem gq_callJl {r : Int64} (hC : Gc p R s m args meth c D T A nL cc own Ts ret k n z) (hJ : gq_J ws WSc WSc' wsN) (As : List Value) (rest : List Value) (hM : Ml l y wy rm D T z (.ref b :: As) WSc r WSc' 0 0) (hg : GoodIn Ts (wsV own ix C y wy)) (hw : wy = Cond.code y bytes maxL (some .long) :: ws') (hrm : rm.cells = 0 ∧ rm.slots = 0) (hy : y.cls = C ∧ y.cls ≠ "java/lang/invoke/MethodHandle" ∧ y.cls ≠ "java/lang/invoke/VarHandle" ∧ (parseMethodDescriptor y.desc).map (fun d => d.parameters.length) = some nA) (hR : rm.frames + 1 ≤ R.frames ∧ 8 + (maxL + 11) + rm.locals ≤ R.locals) (hrc : gq_cl[ci]? = some q) (hq : q.1 = C) (hrv : WSc[q0]? = some (b, .inr (ci, fs))) (hst : (rest.map fun v => v.category).sum ≤ 8) (hn : As.length = nA) (hd : decode cc pc = .ok (.invokevirtual ix, 3)) (hs0 : st = As.reverse ++ .ref b :: rest) (kk : Gx p l e R s m args below meth c D A nL Q k n (pc + 3) lv (.long r :: rest) wsN) : Gx p l e R s m args below meth c D A nL Q k n pc lv st ws := by
  subst hs0; subst hq
  intro H locs ls hP hD hS hl
  obtain ⟨hpre, hF⟩ := gq_preJ (As := .ref b :: As) hC hJ hP hD hS
  have hPc : va_P D gq_cl WSc H := hJ.1 D H hP
  refine va_calll (va_runV (As := As) (rest := rest) ⟨hC.1, hC.2.1, hC.2.2.1, hC.2.2.2.1, hC.2.2.2.2.1⟩ (hM H.size) (cwV nA hC.2.2.2.2.1 hg hw hrm.1 hrm.2 hy hR) ⟨gq_blind, va_recv hC.2.2.2.2.2.1.1 hPc hrc hrv, hpre⟩ rfl hn hl.1 rfl (lv_room hst) hd ⟨hC.2.2.2.2.2.2.2.1.1, hC.2.2.2.2.2.2.2.1.2⟩) hS (fun q _ h => hF q h) hF (fun r' u t H1 locs1 ht hvm hw2 hB hz1 hk1 hS1 => ?_)
  subst hw2
  rw [ht] at hB
  obtain ⟨hP2, hD2⟩ := hJ.2.2 D A H H1 hP hD hk1 hB
  exact kk H1 locs1 ls hP2 hD2 hS1 hl
theorem gq_callJv (hC : Gc p R s m args meth c D T A nL cc own Ts ret k n z) (hJ : gq_J ws WSc WSc' wsN) (As : List Value) (rest : List Value) (hM : Mv l y wy rm D T z (.ref b :: As) WSc WSc' 0 0) (hg : GoodIn Ts (wsV own ix C y wy)) (hw : wy = Cond.code y bytes maxL none :: ws') (hrm : rm.cells = 0 ∧ rm.slots = 0) (hy : y.cls = C ∧ y.cls ≠ "java/lang/invoke/MethodHandle" ∧ y.cls ≠ "java/lang/invoke/VarHandle" ∧ (parseMethodDescriptor y.desc).map (fun d => d.parameters.length) = some nA) (hR : rm.frames + 1 ≤ R.frames ∧ 8 + (maxL + 11) + rm.locals ≤ R.locals) (hrc : gq_cl[ci]? = some q) (hq : q.1 = C) (hrv : WSc[q0]? = some (b, .inr (ci, fs))) (hst : (rest.map fun v => v.category).sum ≤ 8) (hn : As.length = nA) (hd : decode cc pc = .ok (.invokevirtual ix, 3)) (hs0 : st = As.reverse ++ .ref b :: rest) (kk : Gx p l e R s m args below meth c D A nL Q k n (pc + 3) lv rest wsN) : Gx p l e R s m args below meth c D A nL Q k n pc lv st ws := by
  subst hs0; subst hq
  intro H locs ls hP hD hS hl
  obtain ⟨hpre, hF⟩ := gq_preJ (As := .ref b :: As) hC hJ hP hD hS
  have hPc : va_P D gq_cl WSc H := hJ.1 D H hP
  refine va_callv (va_runV (As := As) (rest := rest) ⟨hC.1, hC.2.1, hC.2.2.1, hC.2.2.2.1, hC.2.2.2.2.1⟩ (hM H.size) (cwV nA hC.2.2.2.2.1 hg hw hrm.1 hrm.2 hy hR) ⟨gq_blind, va_recv hC.2.2.2.2.2.1.1 hPc hrc hrv, hpre⟩ rfl hn hl.1 rfl (lv_room hst) hd ⟨hC.2.2.2.2.2.2.2.1.1, hC.2.2.2.2.2.2.2.1.2⟩) hS (fun q _ h => hF q h) hF (fun u t H1 locs1 ht hvm hw2 hB hz1 hk1 hS1 => ?_)
  rw [ht] at hB
  obtain ⟨hP2, hD2⟩ := hJ.2.2 D A H H1 hP hD hk1 hB
  exact kk H1 locs1 ls hP2 hD2 hS1 hl
theorem gq_xrJi {rt : FieldType} {r : Int32} (hC : Gc p R s m args meth c D T A nL cc own Ts ret k n z) (hJ : gq_J ws WSc WSc' wsN) (As : List Value) (rest : List Value) (hM : Xi l y wy rm D T z (.ref b :: As) WSc (.inr r) WSc' kc nc) (hg : GoodIn Ts (wsV own ix C y wy)) (hw : wy = Cond.code y bytes maxL (some rt) :: ws') (hrm : rm.cells = kc ∧ rm.slots = nc) (hy : y.cls = C ∧ y.cls ≠ "java/lang/invoke/MethodHandle" ∧ y.cls ≠ "java/lang/invoke/VarHandle" ∧ (parseMethodDescriptor y.desc).map (fun d => d.parameters.length) = some nA) (hkc : k + kc ≤ R.cells ∧ n + nc ≤ R.slots) (hR : rm.frames + 1 ≤ R.frames ∧ 8 + (maxL + 11) + rm.locals ≤ R.locals) (hrc : gq_cl[ci]? = some q) (hq : q.1 = C) (hrv : WSc[q0]? = some (b, .inr (ci, fs))) (hst : (rest.map fun v => v.category).sum ≤ 8) (hn : As.length = nA) (hd : decode cc pc = .ok (.invokevirtual ix, 3)) (hs0 : st = As.reverse ++ .ref b :: rest) (kk : Gx p l e R s m args below meth c D A nL Q (k + kc) (n + nc) (pc + 3) lv (.int r :: rest) wsN) : Gx p l e R s m args below meth c D A nL Q k n pc lv st ws := by
  subst hs0; subst hq
  intro H locs ls hP hD hS hl
  obtain ⟨hpre, hF⟩ := gq_preJ (As := .ref b :: As) hC hJ hP hD hS
  have hPc : va_P D gq_cl WSc H := hJ.1 D H hP
  refine vx_calli (vx_runV (As := As) (rest := rest) ⟨hC.1, hC.2.1, hC.2.2.1, hC.2.2.2.1, hC.2.2.2.2.1⟩ (hM H.size) (cwV nA hC.2.2.2.2.1 hg hw hrm.1 hrm.2 hy hR) ⟨gq_blind, va_recv hC.2.2.2.2.2.1.1 hPc hrc hrv, hpre⟩ rfl hn hl.1 rfl (lv_room hst) hd hkc) hS (fun q _ h => hF q h) hF (fun q _ h => hF q h) (fun E ce q9 u t H1 locs1 ht hvm hpx hB hz1 hk1 hS1 hce hcv hcl => ?_) (fun r' u t H1 locs1 ht hvm hw2 hB hz1 hk1 hS1 => ?_)
  · cases hpx
  · cases hw2
    rw [ht] at hB
    obtain ⟨hP2, hD2⟩ := hJ.2.2 D A H H1 hP hD hk1 hB
    exact kk H1 locs1 ls hP2 hD2 hS1 hl
theorem gq_xxJi {rt : FieldType} {code : Nat} {α : Type} {x : Nat ⊕ α} {Qc : Array Value → State → Outcome → State → Prop} (hC : Gc p R s m args meth c D T A nL cc own Ts ret k n z) (hJ : gq_J ws WSc WSc' wsN) (As : List Value) (rest : List Value) (hM : Xi l y wy rm D T z (.ref b :: As) WSc (.inl code) WSc' kc nc) (hg : GoodIn Ts (wsV own ix C y wy)) (hw : wy = Cond.code y bytes maxL (some rt) :: ws') (hrm : rm.cells = kc ∧ rm.slots = nc) (hy : y.cls = C ∧ y.cls ≠ "java/lang/invoke/MethodHandle" ∧ y.cls ≠ "java/lang/invoke/VarHandle" ∧ (parseMethodDescriptor y.desc).map (fun d => d.parameters.length) = some nA) (hkc : k + kc ≤ R.cells ∧ n + nc ≤ R.slots) (hR : rm.frames + 1 ≤ R.frames ∧ 8 + (maxL + 11) + rm.locals ≤ R.locals) (hrc : gq_cl[ci]? = some q) (hq : q.1 = C) (hrv : WSc[q0]? = some (b, .inr (ci, fs))) (hst : (rest.map fun v => v.category).sum ≤ 8) (hn : As.length = nA) (hd : decode cc pc = .ok (.invokevirtual ix, 3)) (hs0 : st = As.reverse ++ .ref b :: rest) (hex : ∀ x ∈ c.exceptionTable.toList, False) (hx : x = .inl code) (hmc : k + kc ≤ mc ∧ n + nc ≤ ms) : Gx p l e R s m args below meth c D A nL (vx_MQ below Qc (gq_XC D A x wsN) args s mc ms A) k n pc lv st ws := by
  subst hs0; subst hq
  intro H locs ls hP hD hS hl
  obtain ⟨hpre, hF⟩ := gq_preJ (As := .ref b :: As) hC hJ hP hD hS
  have hPc : va_P D gq_cl WSc H := hJ.1 D H hP
  refine vx_calli (vx_runV (As := As) (rest := rest) ⟨hC.1, hC.2.1, hC.2.2.1, hC.2.2.2.1, hC.2.2.2.2.1⟩ (hM H.size) (cwV nA hC.2.2.2.2.1 hg hw hrm.1 hrm.2 hy hR) ⟨gq_blind, va_recv hC.2.2.2.2.2.1.1 hPc hrc hrv, hpre⟩ rfl hn hl.1 rfl (lv_room hst) hd hkc) hS (fun q _ h => hF q h) hF (fun q _ h => hF q h) (fun E ce q9 u t H1 locs1 ht hvm hpx hB hz1 hk1 hS1 hce hcv hcl => ?_) (fun r' u t H1 locs1 ht hvm hw2 hB hz1 hk1 hS1 => ?_)
  · cases hpx
    obtain ⟨hE, hB⟩ := hB
    rw [ht] at hB
    obtain ⟨hP2, hD2⟩ := hJ.2.2 D A H H1 hP hD hk1 hB
    refine vx_out (E := E) (fun x9 h9 => (hex x9 h9).elim) hC.2.2.2.2.2.2.2.2.2.1 hce hcv hcl (fun t9 ht9 _ => ⟨_, hx, ⟨hE, by rw [ht9]; exact hP2⟩, hS1.F ht9⟩) hS1.2.2 hmc.1 hmc.2
  · cases hw2
theorem gq_xrJl {r : Int64} (hC : Gc p R s m args meth c D T A nL cc own Ts ret k n z) (hJ : gq_J ws WSc WSc' wsN) (As : List Value) (rest : List Value) (hM : Xl l y wy rm D T z (.ref b :: As) WSc (.inr r) WSc' kc nc) (hg : GoodIn Ts (wsV own ix C y wy)) (hw : wy = Cond.code y bytes maxL (some .long) :: ws') (hrm : rm.cells = kc ∧ rm.slots = nc) (hy : y.cls = C ∧ y.cls ≠ "java/lang/invoke/MethodHandle" ∧ y.cls ≠ "java/lang/invoke/VarHandle" ∧ (parseMethodDescriptor y.desc).map (fun d => d.parameters.length) = some nA) (hkc : k + kc ≤ R.cells ∧ n + nc ≤ R.slots) (hR : rm.frames + 1 ≤ R.frames ∧ 8 + (maxL + 11) + rm.locals ≤ R.locals) (hrc : gq_cl[ci]? = some q) (hq : q.1 = C) (hrv : WSc[q0]? = some (b, .inr (ci, fs))) (hst : (rest.map fun v => v.category).sum ≤ 8) (hn : As.length = nA) (hd : decode cc pc = .ok (.invokevirtual ix, 3)) (hs0 : st = As.reverse ++ .ref b :: rest) (kk : Gx p l e R s m args below meth c D A nL Q (k + kc) (n + nc) (pc + 3) lv (.long r :: rest) wsN) : Gx p l e R s m args below meth c D A nL Q k n pc lv st ws := by
  subst hs0; subst hq
  intro H locs ls hP hD hS hl
  obtain ⟨hpre, hF⟩ := gq_preJ (As := .ref b :: As) hC hJ hP hD hS
  have hPc : va_P D gq_cl WSc H := hJ.1 D H hP
  refine vx_calll (vx_runV (As := As) (rest := rest) ⟨hC.1, hC.2.1, hC.2.2.1, hC.2.2.2.1, hC.2.2.2.2.1⟩ (hM H.size) (cwV nA hC.2.2.2.2.1 hg hw hrm.1 hrm.2 hy hR) ⟨gq_blind, va_recv hC.2.2.2.2.2.1.1 hPc hrc hrv, hpre⟩ rfl hn hl.1 rfl (lv_room hst) hd hkc) hS (fun q _ h => hF q h) hF (fun q _ h => hF q h) (fun E ce q9 u t H1 locs1 ht hvm hpx hB hz1 hk1 hS1 hce hcv hcl => ?_) (fun r' u t H1 locs1 ht hvm hw2 hB hz1 hk1 hS1 => ?_)
  · cases hpx
  · cases hw2
    rw [ht] at hB
    obtain ⟨hP2, hD2⟩ := hJ.2.2 D A H H1 hP hD hk1 hB
    exact kk H1 locs1 ls hP2 hD2 hS1 hl
theorem gq_xxJl {code : Nat} {α : Type} {x : Nat ⊕ α} {Qc : Array Value → State → Outcome → State → Prop} (hC : Gc p R s m args meth c D T A nL cc own Ts ret k n z) (hJ : gq_J ws WSc WSc' wsN) (As : List Value) (rest : List Value) (hM : Xl l y wy rm D T z (.ref b :: As) WSc (.inl code) WSc' kc nc) (hg : GoodIn Ts (wsV own ix C y wy)) (hw : wy = Cond.code y bytes maxL (some .long) :: ws') (hrm : rm.cells = kc ∧ rm.slots = nc) (hy : y.cls = C ∧ y.cls ≠ "java/lang/invoke/MethodHandle" ∧ y.cls ≠ "java/lang/invoke/VarHandle" ∧ (parseMethodDescriptor y.desc).map (fun d => d.parameters.length) = some nA) (hkc : k + kc ≤ R.cells ∧ n + nc ≤ R.slots) (hR : rm.frames + 1 ≤ R.frames ∧ 8 + (maxL + 11) + rm.locals ≤ R.locals) (hrc : gq_cl[ci]? = some q) (hq : q.1 = C) (hrv : WSc[q0]? = some (b, .inr (ci, fs))) (hst : (rest.map fun v => v.category).sum ≤ 8) (hn : As.length = nA) (hd : decode cc pc = .ok (.invokevirtual ix, 3)) (hs0 : st = As.reverse ++ .ref b :: rest) (hex : ∀ x ∈ c.exceptionTable.toList, False) (hx : x = .inl code) (hmc : k + kc ≤ mc ∧ n + nc ≤ ms) : Gx p l e R s m args below meth c D A nL (vx_MQ below Qc (gq_XC D A x wsN) args s mc ms A) k n pc lv st ws := by
  subst hs0; subst hq
  intro H locs ls hP hD hS hl
  obtain ⟨hpre, hF⟩ := gq_preJ (As := .ref b :: As) hC hJ hP hD hS
  have hPc : va_P D gq_cl WSc H := hJ.1 D H hP
  refine vx_calll (vx_runV (As := As) (rest := rest) ⟨hC.1, hC.2.1, hC.2.2.1, hC.2.2.2.1, hC.2.2.2.2.1⟩ (hM H.size) (cwV nA hC.2.2.2.2.1 hg hw hrm.1 hrm.2 hy hR) ⟨gq_blind, va_recv hC.2.2.2.2.2.1.1 hPc hrc hrv, hpre⟩ rfl hn hl.1 rfl (lv_room hst) hd hkc) hS (fun q _ h => hF q h) hF (fun q _ h => hF q h) (fun E ce q9 u t H1 locs1 ht hvm hpx hB hz1 hk1 hS1 hce hcv hcl => ?_) (fun r' u t H1 locs1 ht hvm hw2 hB hz1 hk1 hS1 => ?_)
  · cases hpx
    obtain ⟨hE, hB⟩ := hB
    rw [ht] at hB
    obtain ⟨hP2, hD2⟩ := hJ.2.2 D A H H1 hP hD hk1 hB
    refine vx_out (E := E) (fun x9 h9 => (hex x9 h9).elim) hC.2.2.2.2.2.2.2.2.2.1 hce hcv hcl (fun t9 ht9 _ => ⟨_, hx, ⟨hE, by rw [ht9]; exact hP2⟩, hS1.F ht9⟩) hS1.2.2 hmc.1 hmc.2
  · cases hw2
theorem gq_xrJv {r : Unit} (hC : Gc p R s m args meth c D T A nL cc own Ts ret k n z) (hJ : gq_J ws WSc WSc' wsN) (As : List Value) (rest : List Value) (hM : Xv l y wy rm D T z (.ref b :: As) WSc (.inr r) WSc' kc nc) (hg : GoodIn Ts (wsV own ix C y wy)) (hw : wy = Cond.code y bytes maxL none :: ws') (hrm : rm.cells = kc ∧ rm.slots = nc) (hy : y.cls = C ∧ y.cls ≠ "java/lang/invoke/MethodHandle" ∧ y.cls ≠ "java/lang/invoke/VarHandle" ∧ (parseMethodDescriptor y.desc).map (fun d => d.parameters.length) = some nA) (hkc : k + kc ≤ R.cells ∧ n + nc ≤ R.slots) (hR : rm.frames + 1 ≤ R.frames ∧ 8 + (maxL + 11) + rm.locals ≤ R.locals) (hrc : gq_cl[ci]? = some q) (hq : q.1 = C) (hrv : WSc[q0]? = some (b, .inr (ci, fs))) (hst : (rest.map fun v => v.category).sum ≤ 8) (hn : As.length = nA) (hd : decode cc pc = .ok (.invokevirtual ix, 3)) (hs0 : st = As.reverse ++ .ref b :: rest) (kk : Gx p l e R s m args below meth c D A nL Q (k + kc) (n + nc) (pc + 3) lv rest wsN) : Gx p l e R s m args below meth c D A nL Q k n pc lv st ws := by
  subst hs0; subst hq
  intro H locs ls hP hD hS hl
  obtain ⟨hpre, hF⟩ := gq_preJ (As := .ref b :: As) hC hJ hP hD hS
  have hPc : va_P D gq_cl WSc H := hJ.1 D H hP
  refine vx_callv (vx_runV (As := As) (rest := rest) ⟨hC.1, hC.2.1, hC.2.2.1, hC.2.2.2.1, hC.2.2.2.2.1⟩ (hM H.size) (cwV nA hC.2.2.2.2.1 hg hw hrm.1 hrm.2 hy hR) ⟨gq_blind, va_recv hC.2.2.2.2.2.1.1 hPc hrc hrv, hpre⟩ rfl hn hl.1 rfl (lv_room hst) hd hkc) hS (fun q _ h => hF q h) hF (fun q _ h => hF q h) (fun E ce q9 u t H1 locs1 ht hvm hpx hB hz1 hk1 hS1 hce hcv hcl => ?_) (fun u t H1 locs1 ht hvm hw2 hB hz1 hk1 hS1 => ?_)
  · cases hpx
  · cases hw2
    rw [ht] at hB
    obtain ⟨hP2, hD2⟩ := hJ.2.2 D A H H1 hP hD hk1 hB
    exact kk H1 locs1 ls hP2 hD2 hS1 hl
theorem gq_xxJv {code : Nat} {α : Type} {x : Nat ⊕ α} {Qc : Array Value → State → Outcome → State → Prop} (hC : Gc p R s m args meth c D T A nL cc own Ts ret k n z) (hJ : gq_J ws WSc WSc' wsN) (As : List Value) (rest : List Value) (hM : Xv l y wy rm D T z (.ref b :: As) WSc (.inl code) WSc' kc nc) (hg : GoodIn Ts (wsV own ix C y wy)) (hw : wy = Cond.code y bytes maxL none :: ws') (hrm : rm.cells = kc ∧ rm.slots = nc) (hy : y.cls = C ∧ y.cls ≠ "java/lang/invoke/MethodHandle" ∧ y.cls ≠ "java/lang/invoke/VarHandle" ∧ (parseMethodDescriptor y.desc).map (fun d => d.parameters.length) = some nA) (hkc : k + kc ≤ R.cells ∧ n + nc ≤ R.slots) (hR : rm.frames + 1 ≤ R.frames ∧ 8 + (maxL + 11) + rm.locals ≤ R.locals) (hrc : gq_cl[ci]? = some q) (hq : q.1 = C) (hrv : WSc[q0]? = some (b, .inr (ci, fs))) (hst : (rest.map fun v => v.category).sum ≤ 8) (hn : As.length = nA) (hd : decode cc pc = .ok (.invokevirtual ix, 3)) (hs0 : st = As.reverse ++ .ref b :: rest) (hex : ∀ x ∈ c.exceptionTable.toList, False) (hx : x = .inl code) (hmc : k + kc ≤ mc ∧ n + nc ≤ ms) : Gx p l e R s m args below meth c D A nL (vx_MQ below Qc (gq_XC D A x wsN) args s mc ms A) k n pc lv st ws := by
  subst hs0; subst hq
  intro H locs ls hP hD hS hl
  obtain ⟨hpre, hF⟩ := gq_preJ (As := .ref b :: As) hC hJ hP hD hS
  have hPc : va_P D gq_cl WSc H := hJ.1 D H hP
  refine vx_callv (vx_runV (As := As) (rest := rest) ⟨hC.1, hC.2.1, hC.2.2.1, hC.2.2.2.1, hC.2.2.2.2.1⟩ (hM H.size) (cwV nA hC.2.2.2.2.1 hg hw hrm.1 hrm.2 hy hR) ⟨gq_blind, va_recv hC.2.2.2.2.2.1.1 hPc hrc hrv, hpre⟩ rfl hn hl.1 rfl (lv_room hst) hd hkc) hS (fun q _ h => hF q h) hF (fun q _ h => hF q h) (fun E ce q9 u t H1 locs1 ht hvm hpx hB hz1 hk1 hS1 hce hcv hcl => ?_) (fun u t H1 locs1 ht hvm hw2 hB hz1 hk1 hS1 => ?_)
  · cases hpx
    obtain ⟨hE, hB⟩ := hB
    rw [ht] at hB
    obtain ⟨hP2, hD2⟩ := hJ.2.2 D A H H1 hP hD hk1 hB
    refine vx_out (E := E) (fun x9 h9 => (hex x9 h9).elim) hC.2.2.2.2.2.2.2.2.2.1 hce hcv hcl (fun t9 ht9 _ => ⟨_, hx, ⟨hE, by rw [ht9]; exact hP2⟩, hS1.F ht9⟩) hS1.2.2 hmc.1 hmc.2
  · cases hw2
end CalleeJ
end GJR
/-- the callee's cells lie at the places f of the caller's world -/
theorem gq_J.gen {ws WSc WSc' wsN : va_W} (f : Nat → Nat) (hin : ∀ (t : Nat) (q : Nat × va_E), WSc[t]? = some q → ws[f t]? = some q) (hinj : ∀ i j : Nat, i < WSc.length → j < WSc.length → f i = f j → i = j) (ha : WSc'.map (fun q => q.1) = WSc.map (fun q => q.1))
    (hN : ∀ (j : Nat) (q : Nat × va_E), wsN[j]? = some q → (∃ t : Nat, f t = j ∧ WSc'[t]? = some q) ∨ ((∀ t : Nat, t < WSc.length → f t ≠ j) ∧ ws[j]? = some q)) : gq_J ws WSc WSc' wsN := by
  have hadr : ∀ (t : Nat) (q : Nat × va_E), WSc'[t]? = some q → ∃ q' : Nat × va_E, WSc[t]? = some q' ∧ q'.1 = q.1 := by
    intro t q h
    have h1 := congrArg (fun L => L[t]?) ha
    simp only [List.getElem?_map, h, Option.map_some] at h1
    cases hw : WSc[t]? with
    | none => rw [hw] at h1; simp at h1
    | some q' => rw [hw] at h1; simp at h1; exact ⟨q', rfl, h1.symm⟩
  have hlt : ∀ (t : Nat) (q : Nat × va_E), WSc[t]? = some q → t < WSc.length := fun t q h => (List.getElem?_eq_some_iff.mp h).1
  refine ⟨fun D H h t q ht => h (f t) q (hin t q ht), fun A h => ⟨fun i j x y hx hy hxy => hinj i j (hlt i x hx) (hlt j y hy) (h.1 _ _ _ _ (hin i x hx) (hin j y hy) hxy), fun t q ht => h.2 (f t) q (hin t q ht)⟩, fun D A H H1 hP hD hk hP1 => ?_⟩
  have hold : ∀ (j : Nat) (q : Nat × va_E), wsN[j]? = some q → ∃ q' : Nat × va_E, ws[j]? = some q' ∧ q'.1 = q.1 := by
    intro j q h
    rcases hN j q h with ⟨t, h1, h2⟩ | ⟨-, h2⟩
    · obtain ⟨q', g1, g2⟩ := hadr t q h2
      exact ⟨q', by rw [← h1]; exact hin t q' g1, g2⟩
    · exact ⟨q, h2, rfl⟩
  refine ⟨fun j q h => ?_, fun i j x y hx hy hxy => ?_, fun j q h => ?_⟩
  · rcases hN j q h with ⟨t, h1, h2⟩ | ⟨h1, h2⟩
    · exact hP1 t q h2
    · have hat1 := hP j q h2
      refine hat1.kept (hk q.1 hat1.lt ?_)
      rintro (⟨t, ee, ht⟩ | hsz)
      · have hij := hD.1 (f t) j _ _ (hin t _ ht) h2 rfl
        exact h1 t (hlt t _ ht) hij
      · exact absurd hat1.lt (Nat.not_lt.mpr hsz)
  · obtain ⟨x', g1, g2⟩ := hold i x hx
    obtain ⟨y', g3, g4⟩ := hold j y hy
    exact hD.1 i j x' y' g1 g3 (by rw [g2, g4, hxy])
  · obtain ⟨q', g1, g2⟩ := hold j q h
    rw [← g2]
    exact hD.2 j q' g1
/-- eight blocks of seventeen cells -/
def gq_cat (B : Nat → va_W) : va_W := B 0 ++ (B 1 ++ (B 2 ++ (B 3 ++ (B 4 ++ (B 5 ++ (B 6 ++ B 7))))))
theorem gq_cat_len {B : Nat → va_W} (hB : ∀ k, (B k).length = 17) : (gq_cat B).length = 136 := by
  simp [gq_cat, hB]
theorem gq_cat_get {B : Nat → va_W} (hB : ∀ k, (B k).length = 17) (k t : Nat) (hk : k < 8) (ht : t < 17) : (gq_cat B)[17 * k + t]? = (B k)[t]? := by
  have h := hB
  rcases (show k = 0 ∨ k = 1 ∨ k = 2 ∨ k = 3 ∨ k = 4 ∨ k = 5 ∨ k = 6 ∨ k = 7 by omega) with rfl | rfl | rfl | rfl | rfl | rfl | rfl | rfl <;> unfold gq_cat
  · rw [List.getElem?_append_left (by rw [hB]; omega)]; congr 1; omega
  · rw [List.getElem?_append_right (by rw [hB]; omega), List.getElem?_append_left (by rw [hB, hB]; omega)]; congr 1; rw [hB]; omega
  · rw [List.getElem?_append_right (by rw [hB]; omega), List.getElem?_append_right (by rw [hB, hB]; omega), List.getElem?_append_left (by rw [hB, hB, hB]; omega)]; congr 1; rw [hB, hB]; omega
  · iterate 3 rw [List.getElem?_append_right (by simp only [hB]; omega)]
    rw [List.getElem?_append_left (by simp only [hB]; omega)]; congr 1; simp only [hB]; omega
  · iterate 4 rw [List.getElem?_append_right (by simp only [hB]; omega)]
    rw [List.getElem?_append_left (by simp only [hB]; omega)]; congr 1; simp only [hB]; omega
  · iterate 5 rw [List.getElem?_append_right (by simp only [hB]; omega)]
    rw [List.getElem?_append_left (by simp only [hB]; omega)]; congr 1; simp only [hB]; omega
  · iterate 6 rw [List.getElem?_append_right (by simp only [hB]; omega)]
    rw [List.getElem?_append_left (by simp only [hB]; omega)]; congr 1; simp only [hB]; omega
  · iterate 7 rw [List.getElem?_append_right (by simp only [hB]; omega)]
    congr 1; simp only [hB]; omega
theorem gq_cat_at {B : Nat → va_W} (hB : ∀ k, (B k).length = 17) {i : Nat} {q : Nat × va_E} (h : (gq_cat B)[i]? = some q) : i / 17 < 8 ∧ (B (i / 17))[i % 17]? = some q := by
  have hl := (List.getElem?_eq_some_iff.mp h).1
  rw [gq_cat_len hB] at hl
  have h1 : i / 17 < 8 := by omega
  refine ⟨h1, ?_⟩
  rw [← gq_cat_get hB (i / 17) (i % 17) h1 (by omega)]
  rw [show 17 * (i / 17) + i % 17 = i by omega]
  exact h
/-- one block of a pool, and cells ahead of it -/
theorem gq_J.block {X Y Y' XN : va_W} {B : Nat → va_W} (hB : ∀ k, (B k).length = 17) (k : Nat) (hk : k < 8) (b : va_W) (hb : b.map (fun q => q.1) = (B k).map (fun q => q.1)) (is : List Nat) (hcm : is.map (fun i => X[i]?) = Y.map some) (hnd : va_nd is = true) (ha : Y'.map (fun q => q.1) = Y.map (fun q => q.1)) (hnew : gq_put X is Y' = XN) : gq_J (X ++ gq_cat B) (B k ++ Y) (b ++ Y') (XN ++ gq_cat (va_up B k b)) := by
  subst hnew
  have hl1 : Y'.length = Y.length := by have := congrArg List.length ha; simpa using this
  have hlb : b.length = 17 := by have := congrArg List.length hb; simpa [hB] using this
  have hli : is.length = Y.length := by have := congrArg List.length hcm; simpa using this
  have hB' : ∀ j, (va_up B k b j).length = 17 := by
    intro j
    by_cases hj : j = k
    · subst hj; rw [va_up_self]; exact hlb
    · rw [va_up_ne B b hj]; exact hB j
  have hat : ∀ (t i : Nat), is[t]? = some i → ∃ q, Y[t]? = some q ∧ X[i]? = some q := by
    intro t i h
    have h1 := congrArg (fun L => L[t]?) hcm
    simp only [List.getElem?_map, h, Option.map_some] at h1
    cases hw : Y[t]? with
    | none => rw [hw] at h1; simp at h1
    | some q => rw [hw] at h1; simp at h1; exact ⟨q, rfl, h1⟩
  have hat2 : ∀ (t : Nat) (q : Nat × va_E), Y[t]? = some q → is[t]? = some (is.getD t 0) ∧ X[is.getD t 0]? = some q := by
    intro t q h
    have htl : t < is.length := by rw [hli]; exact (List.getElem?_eq_some_iff.mp h).1
    have h1 : is[t]? = some (is.getD t 0) := by simp [List.getD, htl]
    obtain ⟨q', g1, g2⟩ := hat t _ h1
    rw [h] at g1; cases g1
    exact ⟨h1, g2⟩
  refine gq_J.gen (fun t => if t < 17 then X.length + (17 * k + t) else is.getD (t - 17) 0) ?_ ?_ (by rw [List.map_append, List.map_append, hb, ha]) ?_
  · intro t q h
    by_cases ht : t < 17
    · rw [List.getElem?_append_left (by rw [hB]; exact ht)] at h
      simp only [ht, if_true]
      rw [List.getElem?_append_right (by omega), show X.length + (17 * k + t) - X.length = 17 * k + t by omega, gq_cat_get hB k t hk ht]
      exact h
    · rw [List.getElem?_append_right (by rw [hB]; omega), hB] at h
      simp only [ht, if_false]
      obtain ⟨h1, h2⟩ := hat2 _ q h
      rw [List.getElem?_append_left (List.getElem?_eq_some_iff.mp h2).1]
      exact h2
  · intro i j hi hj hij
    simp only [List.length_append, hB] at hi hj
    have hX : ∀ t, 17 ≤ t → t < 17 + Y.length → is.getD (t - 17) 0 < X.length := by
      intro t h1 h2
      have h3 : t - 17 < Y.length := by omega
      obtain ⟨-, h4⟩ := hat2 (t - 17) _ (List.getElem?_eq_getElem h3)
      exact (List.getElem?_eq_some_iff.mp h4).1
    by_cases hi7 : i < 17 <;> by_cases hj7 : j < 17
    · simp only [hi7, hj7, if_true] at hij; omega
    · simp only [hi7, hj7, if_true, if_false] at hij
      have := hX j (by omega) hj; omega
    · simp only [hi7, hj7, if_true, if_false] at hij
      have := hX i (by omega) hi; omega
    · simp only [hi7, hj7, if_false] at hij
      have h3 : i - 17 < is.length := by omega
      have h4 : j - 17 < is.length := by omega
      have := va_nd_inj is hnd (i - 17) (j - 17) (is.getD (i - 17) 0) (by rw [List.getD_eq_getElem?_getD]; simp [h3]) (by rw [hij, List.getD_eq_getElem?_getD]; simp [h4])
      omega
  · intro j q h
    by_cases hj : j < X.length
    · rw [List.getElem?_append_left (by rw [gq_put_len]; exact hj)] at h
      rcases gq_put_get is Y' X j q (by rw [hli, hl1]) h with ⟨t, h1, h2⟩ | ⟨h1, h2⟩
      · refine Or.inl ⟨17 + t, ?_, ?_⟩
        · have : ¬ 17 + t < 17 := by omega
          simp only [this, if_false]
          rw [show 17 + t - 17 = t by omega]
          simp [List.getD, h1]
        · rw [List.getElem?_append_right (by omega), hlb, show 17 + t - 17 = t by omega]; exact h2
      · refine Or.inr ⟨fun t ht => ?_, by rw [List.getElem?_append_left hj]; exact h2⟩
        simp only [List.length_append, hB] at ht
        by_cases ht7 : t < 17
        · simp only [ht7, if_true]; omega
        · simp only [ht7, if_false]
          intro he
          have h3 : t - 17 < is.length := by omega
          apply h1
          rw [← he]
          simp [List.getD, h3]
    · have hj : X.length ≤ j := Nat.not_lt.mp hj
      rw [List.getElem?_append_right (by rw [gq_put_len]; exact hj), gq_put_len] at h
      obtain ⟨h1, h2⟩ := gq_cat_at hB' h
      by_cases hjk : (j - X.length) / 17 = k
      · rw [hjk, va_up_self] at h2
        refine Or.inl ⟨(j - X.length) % 17, ?_, ?_⟩
        · have : (j - X.length) % 17 < 17 := by omega
          simp only [this, if_true]; omega
        · rw [List.getElem?_append_left (by rw [hlb]; omega)]; exact h2
      · rw [va_up_ne B b hjk] at h2
        refine Or.inr ⟨fun t ht => ?_, ?_⟩
        · by_cases ht7 : t < 17
          · simp only [ht7, if_true]; omega
          · simp only [ht7, if_false]
            simp only [List.length_append, hB] at ht
            have h3 : t - 17 < Y.length := by omega
            obtain ⟨-, h4⟩ := hat2 (t - 17) _ (List.getElem?_eq_getElem h3)
            have := (List.getElem?_eq_some_iff.mp h4).1
            omega
        · rw [List.getElem?_append_right hj]
          rw [← gq_cat_get hB ((j - X.length) / 17) ((j - X.length) % 17) h1 (by omega)] at h2
          rw [show 17 * ((j - X.length) / 17) + (j - X.length) % 17 = j - X.length by omega] at h2
          exact h2
/-- the same with the callee's two parts in the other order -/
theorem gq_J.swap {ws a b a' b' wsN : va_W} (ha : a'.length = a.length) (h : gq_J ws (a ++ b) (a' ++ b') wsN) : gq_J ws (b ++ a) (b' ++ a') wsN := by
  have sw : ∀ (u v : va_W) (D : va_G) (H : Heap), va_P D gq_cl (u ++ v) H → va_P D gq_cl (v ++ u) H := by
    intro u v D H hp t q ht
    obtain ⟨i, hi⟩ : ∃ i : Nat, (u ++ v)[i]? = some q := by
      rcases List.mem_append.mp (List.mem_of_getElem? ht) with h | h
      · exact List.getElem?_of_mem (List.mem_append_right _ h)
      · exact List.getElem?_of_mem (List.mem_append_left _ h)
    exact hp i q hi
  have aw : ∀ (u v : va_W) (sz : Nat) (x : Nat), va_A (u ++ v) sz x → va_A (v ++ u) sz x := by
    intro u v sz x hx
    rcases hx with ⟨k, e, hk⟩ | hx
    · refine Or.inl ?_
      rcases List.mem_append.mp (List.mem_of_getElem? hk) with h | h
      · obtain ⟨i, hi⟩ := List.getElem?_of_mem (List.mem_append_right v h); exact ⟨i, e, hi⟩
      · obtain ⟨i, hi⟩ := List.getElem?_of_mem (List.mem_append_left u h); exact ⟨i, e, hi⟩
    · exact Or.inr hx
  refine ⟨fun D H hp => sw _ _ _ _ (h.1 D H hp), fun A hd => ?_, fun D A H H1 hP hD hk hP1 => h.2.2 D A H H1 hP hD (fun q h1 h2 => hk q h1 (fun h3 => h2 (aw _ _ _ _ h3))) (sw _ _ _ _ hP1)⟩
  have hd2 := h.2.1 A hd
  refine ⟨fun i j x y hx hy hxy => ?_, fun t q ht => ?_⟩
  · have pl : ∀ (i : Nat) (x : Nat × va_E), (b ++ a)[i]? = some x → (a ++ b)[if i < b.length then a.length + i else i - b.length]? = some x := by
      intro i x hx
      by_cases hi : i < b.length
      · rw [List.getElem?_append_left hi] at hx
        simp only [hi, if_true]
        rw [List.getElem?_append_right (by omega), show a.length + i - a.length = i by omega]; exact hx
      · have hi' : b.length ≤ i := Nat.not_lt.mp hi
        rw [List.getElem?_append_right hi'] at hx
        simp only [hi, if_false]
        rw [List.getElem?_append_left (List.getElem?_eq_some_iff.mp hx).1]; exact hx
    have hli := (List.getElem?_eq_some_iff.mp hx).1
    have hlj := (List.getElem?_eq_some_iff.mp hy).1
    simp only [List.length_append] at hli hlj
    have e := hd2.1 _ _ _ _ (pl i x hx) (pl j y hy) hxy
    by_cases hi : i < b.length <;> by_cases hj : j < b.length <;> simp only [hi, hj, if_true, if_false] at e <;> omega
  · rcases List.mem_append.mp (List.mem_of_getElem? ht) with h | h
    · obtain ⟨i, hi⟩ := List.getElem?_of_mem (List.mem_append_right a h); exact hd2.2 i q hi
    · obtain ⟨i, hi⟩ := List.getElem?_of_mem (List.mem_append_left b h); exact hd2.2 i q hi
