/-! ===== the law's frame: worlds side by side, wrappers with handlers, catches ===== -/
theorem gq_J.cons {WSc WSc' : va_W} (x : Nat × va_E) (ha : WSc'.map (fun q => q.1) = WSc.map (fun q => q.1)) : gq_J (x :: WSc) WSc WSc' (x :: WSc') := by
  refine gq_J.gen (fun t => t + 1) (fun t q h => by simpa using h) (fun i j _ _ h => Nat.succ.inj h) ha (fun j q h => ?_)
  cases j with
  | zero => exact Or.inr ⟨fun t _ h2 => Nat.succ_ne_zero t h2, by simpa using h⟩
  | succ j => exact Or.inl ⟨j, rfl, by simpa using h⟩
/-- a list of cells is apart from what stands beside it -/
def gq_ad (W : va_W) : Nat → Prop := fun a => ∃ q ∈ W, q.1 = a
theorem gq_ad_D {A : Nat → Prop} {W : va_W} (h : va_D A W) : va_D (gq_ad W) W := ⟨h.1, fun _ q hq => ⟨q, List.mem_of_getElem? hq, rfl⟩⟩
theorem gq_appL {D : va_G} {H : Heap} {U V : va_W} (h : va_P D gq_cl (U ++ V) H) : va_P D gq_cl U H := fun k q hq => h k q (by rw [List.getElem?_append_left (List.getElem?_eq_some_iff.mp hq).1]; exact hq)
theorem gq_appR {D : va_G} {H : Heap} {U V : va_W} (h : va_P D gq_cl (U ++ V) H) : va_P D gq_cl V H := fun k q hq => h (U.length + k) q (by rw [List.getElem?_append_right (by omega)]; simpa using hq)
theorem gq_appDL {A : Nat → Prop} {U V : va_W} (h : va_D A (U ++ V)) : va_D A U := by
  have e : ∀ (k : Nat) (q : Nat × va_E), U[k]? = some q → (U ++ V)[k]? = some q := fun k q hq => by rw [List.getElem?_append_left (List.getElem?_eq_some_iff.mp hq).1]; exact hq
  exact ⟨fun i j x y hx hy hxy => h.1 i j x y (e i x hx) (e j y hy) hxy, fun k q hq => h.2 k q (e k q hq)⟩
theorem gq_appDR {A : Nat → Prop} {U V : va_W} (h : va_D A (U ++ V)) : va_D A V := by
  have e : ∀ (k : Nat) (q : Nat × va_E), V[k]? = some q → (U ++ V)[U.length + k]? = some q := fun k q hq => by rw [List.getElem?_append_right (by omega)]; simpa using hq
  exact ⟨fun i j x y hx hy hxy => by have := h.1 _ _ x y (e i x hx) (e j y hy) hxy; omega, fun k q hq => h.2 _ q (e k q hq)⟩
theorem gq_appDX {A : Nat → Prop} {U V : va_W} (h : va_D A (U ++ V)) {i j : Nat} {x y : Nat × va_E} (hx : U[i]? = some x) (hy : V[j]? = some y) : x.1 ≠ y.1 := by
  intro hxy
  have h1 : (U ++ V)[i]? = some x := by rw [List.getElem?_append_left (List.getElem?_eq_some_iff.mp hx).1]; exact hx
  have h2 : (U ++ V)[U.length + j]? = some y := by rw [List.getElem?_append_right (by omega)]; simpa using hy
  have h3 := h.1 _ _ x y h1 h2 hxy
  have h4 := (List.getElem?_eq_some_iff.mp hx).1
  omega
theorem gq_app {D : va_G} {H : Heap} {U V : va_W} (h1 : va_P D gq_cl U H) (h2 : va_P D gq_cl V H) : va_P D gq_cl (U ++ V) H := by
  intro k q hq
  by_cases hk : k < U.length
  · rw [List.getElem?_append_left hk] at hq; exact h1 k q hq
  · rw [List.getElem?_append_right (by omega)] at hq; exact h2 _ q hq
theorem gq_appD {A : Nat → Prop} {U V : va_W} (h1 : va_D A U) (h2 : va_D A V) (hx : ∀ (i j : Nat) (x y : Nat × va_E), U[i]? = some x → V[j]? = some y → x.1 ≠ y.1) : va_D A (U ++ V) := by
  refine ⟨fun i j x y hi hj hxy => ?_, fun k q hq => ?_⟩
  · by_cases hi2 : i < U.length <;> by_cases hj2 : j < U.length
    · rw [List.getElem?_append_left hi2] at hi; rw [List.getElem?_append_left hj2] at hj; exact h1.1 i j x y hi hj hxy
    · rw [List.getElem?_append_left hi2] at hi; rw [List.getElem?_append_right (by omega)] at hj; exact absurd hxy (hx _ _ x y hi hj)
    · rw [List.getElem?_append_right (by omega)] at hi; rw [List.getElem?_append_left hj2] at hj; exact absurd hxy.symm (hx _ _ y x hj hi)
    · rw [List.getElem?_append_right (by omega)] at hi; rw [List.getElem?_append_right (by omega)] at hj
      have := h1.1; have h3 := h2.1 _ _ x y hi hj hxy; omega
  · by_cases hk : k < U.length
    · rw [List.getElem?_append_left hk] at hq; exact h1.2 k q hq
    · rw [List.getElem?_append_right (by omega)] at hq; exact h2.2 _ q hq
/-- what stands beside a callee's world stays -/
theorem gq_beside {D : va_G} {A : Nat → Prop} {H H1 : Heap} {U W Y : va_W} (hU : va_P D gq_cl U H) (hx : ∀ (i j : Nat) (x y : Nat × va_E), U[i]? = some x → W[j]? = some y → x.1 ≠ y.1) (hY : va_D (gq_ad W) Y) (hk : ∀ q : Nat, q < H.size → ¬ va_A Y H.size q → H1[q]? = H[q]?) : va_P D gq_cl U H1 := by
  intro k q hq
  have hat := hU k q hq
  refine hat.kept (hk q.1 hat.lt ?_)
  rintro (⟨t, ee, ht⟩ | hsz)
  · obtain ⟨w, hw, he⟩ := hY.2 t _ ht
    obtain ⟨j, hj⟩ := List.getElem?_of_mem hw
    exact hx k j q w hq hj he.symm
  · exact absurd hat.lt (Nat.not_lt.mpr hsz)
theorem gq_J.pre {W Y Y' W' : va_W} (U : va_W) (h : gq_J W Y Y' W') : gq_J (U ++ W) Y Y' (U ++ W') := by
  refine ⟨fun D H hp => h.1 D H (gq_appR hp), fun A hd => h.2.1 A (gq_appDR hd), fun D A H H1 hP hD hk hP1 => ?_⟩
  have hDW := gq_appDR hD
  obtain ⟨h1, h2⟩ := h.2.2 D A H H1 (gq_appR hP) hDW hk hP1
  obtain ⟨-, h3⟩ := h.2.2 D (gq_ad W) H H1 (gq_appR hP) (gq_ad_D hDW) hk hP1
  have hx : ∀ (i j : Nat) (x y : Nat × va_E), U[i]? = some x → W[j]? = some y → x.1 ≠ y.1 := fun i j x y hx hy => gq_appDX hD hx hy
  refine ⟨gq_app (gq_beside (A := A) (gq_appL hP) hx (h.2.1 _ (gq_ad_D hDW)) hk) h1, gq_appD (gq_appDL hD) h2 (fun i j x y hi hj hxy => ?_)⟩
  obtain ⟨w, hw, he⟩ := h3.2 j y hj
  obtain ⟨t, ht⟩ := List.getElem?_of_mem hw
  exact hx i t x w hi ht (hxy.trans he.symm)
theorem gq_J.tail {W Y Y' W' : va_W} (U : va_W) (h : gq_J W Y Y' W') : gq_J (W ++ U) Y Y' (W' ++ U) := by
  refine ⟨fun D H hp => h.1 D H (gq_appL hp), fun A hd => h.2.1 A (gq_appDL hd), fun D A H H1 hP hD hk hP1 => ?_⟩
  have hDW := gq_appDL hD
  obtain ⟨h1, h2⟩ := h.2.2 D A H H1 (gq_appL hP) hDW hk hP1
  obtain ⟨-, h3⟩ := h.2.2 D (gq_ad W) H H1 (gq_appL hP) (gq_ad_D hDW) hk hP1
  have hx : ∀ (i j : Nat) (x y : Nat × va_E), U[i]? = some x → W[j]? = some y → x.1 ≠ y.1 := fun i j x y hx hy e => gq_appDX hD hy hx e.symm
  refine ⟨gq_app h1 (gq_beside (A := A) (gq_appR hP) hx (h.2.1 _ (gq_ad_D hDW)) hk), gq_appD h2 (gq_appDR hD) (fun i j x y hi hj hxy => ?_)⟩
  obtain ⟨w, hw, he⟩ := h3.2 i x hi
  obtain ⟨t, ht⟩ := List.getElem?_of_mem hw
  exact hx j t y w hj ht (hxy.symm.trans he.symm)
/-- the cells that a mask picks, and the others -/
def gq_pk : List Bool → va_W → va_W
  | true :: m, x :: X => x :: gq_pk m X
  | false :: m, _ :: X => gq_pk m X
  | _, _ => []
def gq_rs : List Bool → va_W → va_W
  | true :: m, _ :: X => gq_rs m X
  | false :: m, x :: X => x :: gq_rs m X
  | _, _ => []
theorem gq_mg_pk : ∀ (m : List Bool) (X : va_W), m.length = X.length → gq_mg m (gq_pk m X) (gq_rs m X) = X := by
  intro m
  induction m with
  | nil => intro X h; cases X with
    | nil => rfl
    | cons x X => simp at h
  | cons b m ih =>
    intro X h
    cases X with
    | nil => simp at h
    | cons x X =>
      have h2 : m.length = X.length := by simpa using h
      cases b <;> simp [gq_pk, gq_rs, gq_mg, ih X h2]
theorem gq_nf_rs : ∀ (m : List Bool) (X : va_W), m.length = X.length → gq_nf m = (gq_rs m X).length := by
  intro m
  induction m with
  | nil => intro X h; cases X with
    | nil => rfl
    | cons x X => simp at h
  | cons b m ih =>
    intro X h
    cases X with
    | nil => simp at h
    | cons x X =>
      have h2 : m.length = X.length := by simpa using h
      cases b <;> simp [gq_nf, gq_rs, ih X h2]
theorem gq_J.mq {X WSc WSc' XN : va_W} (P : va_W) (m : List Bool) (hm : m.length = X.length) (h1 : gq_pk m X = WSc) (h2 : gq_mg m WSc' (gq_rs m X) = XN) (ha : WSc'.map (fun q => q.1) = WSc.map (fun q => q.1)) (hx : XN.length = X.length) : gq_J (X ++ P) WSc WSc' (XN ++ P) :=
  gq_J.mgt P m (gq_rs m X) (by rw [← h1]; exact (gq_mg_pk m X hm).symm) h2 (gq_nf_rs m X hm) ha hx
section GMH
variable {l : Launch} {y : MethodName} {wy ws' : List Cond} {rm : Room} {D : va_G} {T : List (ClassId × FieldType)} {z : Nat → Nat} {As : List Value} {WS WS' : va_W} {k n : Nat} {cc : ByteArray} {maxL : Nat}
theorem Mi.ofH {hh : List (Nat × Nat × Nat × Nat)} {ty : FieldType} {r : Int32} (hy : plainName y.cls = true) (hw : wy = Cond.codeWith y cc maxL (some ty) hh :: ws') (hlen : (lg_sl As).length ≤ maxL)
    (body : ∀ (p : Program) (e : Env) (s : State) (m : MethodId) (args : Array Value) (below : List Frame) (meth : Method) (c : Code) (A : Nat → Prop), Gc p rm s m args meth c D T A maxL cc y.cls wy (some ty) 0 0 z → c.exceptionTable.toList = tableOf hh → Gx p l e rm s m args below meth c D A maxL (gq_Qi below D A args s r WS' k n) 0 0 0 (lv_args 0 As) [] WS) : Mi l y wy rm D T z As WS r WS' k n := by
  intro sz
  refine va_MetW (cc := cc) (maxL := maxL) (ret := some ty) hy hw ?_
  intro p e s m args below meth c s₁ B hml hv
  have hts := atoms_spec (ws := wy) B.pre
  have hex := vx_table (x := y) B (hts _ (by rw [hw]; exact List.mem_cons_self))
  obtain ⟨rfl, hsz, hP, hK, hD0, hZ⟩ := hv
  subst hsz
  have hD := hD0.self (sz := s.heap.size)
  have hl := lv_entry As (n := maxL) hlen
  rw [lg_entry_eq]
  exact body p e s m _ below meth c _ ⟨B.exec, B.bytes, hml, findClass_of_methodNamed B.named, hts, hK, (fun q h => Or.inr h), ⟨Nat.zero_le _, Nat.zero_le _⟩, B.returns, B.notSynchronized, hZ⟩ hex s.heap [] _ hP hD va_S.rf hl
end GMH
section GLR
variable {p : Program} {l : Launch} {e : Env} {R : Room} {s : State} {m : MethodId} {args : Array Value} {below : List Frame} {meth : Method} {c : Code} {D : va_G} {T : List (ClassId × FieldType)} {z : Nat → Nat} {A : Nat → Prop} {nL : Nat} {Q : State → Prop} {k n : Nat}
variable {cc : ByteArray} {own : String} {Ts : List Cond} {ret : Option FieldType}
variable {y : MethodName} {wy ws' : List Cond} {rm : Room} {As rest : List Value} {ws WSc WSc' wsN : va_W} {bytes : ByteArray} {maxL ix b nA pc q0 ci kc nc : Nat} {C : String} {q : vw_C} {fs : List Value} {lv : List (Nat × Value)} {st : List Value}
theorem gq_cast (c9 : Nat) (h : c9 = 1 ∨ c9 = 2 ∨ c9 = 3 ∨ c9 = 4) : Cond.castable (gq_en c9) (gq_en c9) ∈ gq_xw := by
  rcases h with rfl | rfl | rfl | rfl
  · exact hat_1 _ (by decide +kernel)
  · exact hat_2 _ (by decide +kernel)
  · exact hat_3 _ (by decide +kernel)
  · exact hat_4 _ (by decide +kernel)
/-- a callee throws, and the walk goes on at the handler -/
theorem gq_cJi {rt : FieldType} {c9 : Nat} (hC : Gc p R s m args meth c D T A nL cc own Ts ret k n z) (hJ : gq_J ws WSc WSc' wsN) (As : List Value) (rest : List Value) (hM : Xi l y wy rm D T z (.ref b :: As) WSc (.inl c9) WSc' kc nc) (hg : GoodIn Ts (wsV own ix C y wy)) (hw : wy = Cond.code y bytes maxL (some rt) :: ws') (hrm : rm.cells = kc ∧ rm.slots = nc) (hy : y.cls = C ∧ y.cls ≠ "java/lang/invoke/MethodHandle" ∧ y.cls ≠ "java/lang/invoke/VarHandle" ∧ (parseMethodDescriptor y.desc).map (fun d => d.parameters.length) = some nA) (hkc : k + kc ≤ R.cells ∧ n + nc ≤ R.slots) (hR : rm.frames + 1 ≤ R.frames ∧ 8 + (maxL + 11) + rm.locals ≤ R.locals) (hrc : gq_cl[ci]? = some q) (hq : q.1 = C) (hrv : WSc[q0]? = some (b, .inr (ci, fs))) (hst : (rest.map fun v => v.category).sum ≤ 8) (hn : As.length = nA) (hd : decode cc pc = .ok (.invokevirtual ix, 3)) (hs0 : st = As.reverse ++ .ref b :: rest)
    (h4 : c9 = 1 ∨ c9 = 2 ∨ c9 = 3 ∨ c9 = 4) (pre : List ExceptionTableEntry) (x : ExceptionTableEntry) (suf : List ExceptionTableEntry) (hsplit : c.exceptionTable.toList = pre ++ x :: suf)
    (hpass : ∀ z9 ∈ pre, z9.catchType ≠ 0 ∧ ∃ nm : String, Cond.classLink own z9.catchType nm ∈ Ts ∧ (gq_en c9, nm) ∈ gq_nc) (hx : covers x pc = true) (h0 : x.catchType ≠ 0) (hlink : Cond.classLink own x.catchType (gq_en c9) ∈ Ts)
    (kk : ∀ q9 : Nat, Gx p l e R s m args below meth c D A nL Q (k + kc) (n + nc) x.handlerPc lv [.ref q9] wsN) : Gx p l e R s m args below meth c D A nL Q k n pc lv st ws := by
  subst hs0; subst hq
  intro H locs ls hP hD hS hl
  obtain ⟨hpre, hF⟩ := gq_preJ (As := .ref b :: As) hC hJ hP hD hS
  have hPc : va_P D gq_cl WSc H := hJ.1 D H hP
  have hZ := hC.2.2.2.2.2.2.2.2.2.2
  refine vx_calli (vx_runV (As := As) (rest := rest) ⟨hC.1, hC.2.1, hC.2.2.1, hC.2.2.2.1, hC.2.2.2.2.1⟩ (hM H.size) (cwV nA hC.2.2.2.2.1 hg hw hrm.1 hrm.2 hy hR) ⟨gq_blind, va_recv hC.2.2.2.2.2.1.1 hPc hrc hrv, hpre⟩ rfl hn hl.1 rfl (lv_room hst) hd hkc) hS (fun q _ h => hF q h) hF (fun q _ h => hF q h) (fun E ce q9 u t H1 locs1 ht hvm hpx hB hz1 hk1 hS1 hce hcv hcl => ?_) (fun r' u t H1 locs1 ht hvm hw2 hB hz1 hk1 hS1 => ?_)
  · cases hpx
    obtain ⟨hE, hB⟩ := hB
    subst hE
    rw [ht] at hB
    obtain ⟨hP2, hD2⟩ := hJ.2.2 D A H H1 hP hD hk1 hB
    have hcw := gq_cast c9 h4
    refine vx_catch hC.2.2.2.1 pre x suf hsplit (fun z9 h9 => Or.inr ⟨(hpass z9 h9).1, ?_⟩) hx h0 (hC.2.2.2.2.1 _ hlink) (va_tabs (gq_ok_on (gq_xw_good _ hcw)) rfl (hZ.2.2.2.2.1.1 _ hcw)) hce hcv hcl (kk q9 H1 locs1 ls hP2 hD2 hS1 hl)
    obtain ⟨nm, g1, g2⟩ := (hpass z9 h9).2
    exact ⟨nm, hC.2.2.2.2.1 _ g1, hZ.2.2.2.2.1.2.2.2.2.2 _ g2⟩
  · cases hw2
theorem gq_callSWi {rt : FieldType} {hh : List (Nat × Nat × Nat × Nat)} {r : Int32} (hC : Gc p R s m args meth c D T A nL cc own Ts ret k n z) (hJ : gq_J ws WSc WSc' wsN) (As : List Value) (rest : List Value) (hM : Mi l y wy rm D T z As WSc r WSc' kc nc) (hg : GoodIn Ts (va_wsS own ix y wy)) (hw : wy = Cond.codeWith y bytes maxL (some rt) hh :: ws') (hrm : rm.cells = kc ∧ rm.slots = nc) (hy : y.cls ≠ "java/lang/invoke/MethodHandle" ∧ y.cls ≠ "java/lang/invoke/VarHandle" ∧ (parseMethodDescriptor y.desc).map (fun d => d.parameters.length) = some nA) (hkc : k + kc ≤ R.cells ∧ n + nc ≤ R.slots) (hR : rm.frames + 1 ≤ R.frames ∧ 8 + (maxL + 11) + rm.locals ≤ R.locals) (hst : (rest.map fun v => v.category).sum ≤ 8) (hn : As.length = nA) (hd : decode cc pc = .ok (.invokestatic ix, 3)) (hs0 : st = As.reverse ++ rest) (kk : Gx p l e R s m args below meth c D A nL Q (k + kc) (n + nc) (pc + 3) lv (.int r :: rest) wsN) : Gx p l e R s m args below meth c D A nL Q k n pc lv st ws := by
  subst hs0
  intro H locs ls hP hD hS hl
  obtain ⟨hpre, hF⟩ := gq_preJ (As := As) hC hJ hP hD hS
  refine va_calli (vx_runSW (As := As) (rest := rest) ⟨hC.1, hC.2.1, hC.2.2.1, hC.2.2.2.1, hC.2.2.2.2.1⟩ (hM H.size) (vx_cwSW nA hC.2.2.2.2.1 hg hw hrm.1 hrm.2 hy hR) ⟨gq_blind, hpre⟩ rfl hn hl.1 rfl (lv_room hst) hd hkc) hS (fun q _ h => hF q h) hF (fun r' u t H1 locs1 ht hvm hw2 hB hz1 hk1 hS1 => ?_)
  subst hw2
  rw [ht] at hB
  obtain ⟨hP2, hD2⟩ := hJ.2.2 D A H H1 hP hD hk1 hB
  exact kk H1 locs1 ls hP2 hD2 hS1 hl
/-- the law's own script -/
theorem gq_scr (hC : Gc p R s m args meth c D T A nL cc own Ts ret k n z) {bs L : Nat} {xs : Nat → Int32} {i : Int32} (hX : va_X bs L xs s s.heap) (hbl : bs < s.heap.size) (hbA : ¬ A bs) (hi : vp_in i L) (hd : decode cc pc = .ok (.iaload, 1)) (kk : Gx p l e R s m args below meth c D A nL Q k n (pc + 1) lv (.int (xs i.toNatClampNeg) :: st) ws) : Gx p l e R s m args below meth c D A nL Q k n pc lv (.int i :: .ref bs :: st) ws :=
  fun H locs ls hP hD hS hl => va_sld hC.1 hC.2.1 hX hbl hbA hS hi hd (kk H locs ls hP hD hS hl)
theorem gq_scrn (hC : Gc p R s m args meth c D T A nL cc own Ts ret k n z) {bs L : Nat} {xs : Nat → Int32} (hX : va_X bs L xs s s.heap) (hbl : bs < s.heap.size) (hbA : ¬ A bs) (hd : decode cc pc = .ok (.arraylength, 1)) (kk : Gx p l e R s m args below meth c D A nL Q k n (pc + 1) lv (.int (Int32.ofNat L) :: st) ws) : Gx p l e R s m args below meth c D A nL Q k n pc lv (.ref bs :: st) ws :=
  fun H locs ls hP hD hS hl => va_slen hC.1 hC.2.1 hX hbl hbA hS hd (kk H locs ls hP hD hS hl)
end GLR
theorem lg_cmp_self (x : Int64) : lg_cmp x x = 0 := by simp [lg_cmp]
