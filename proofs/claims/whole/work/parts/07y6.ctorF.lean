/-! ===== constructors: worlds that grow ===== -/
def gq_nl : List (String × Nat × MethodName) := [(RX10, 11, yX6_init), (RX6, 11, yX9_init), (RX6, 20, yX7_init), (RX6, 27, yX2_init), (RX1, 17, yX6_init), (RX10, 25, yX5_init), (RX5, 17, yX6_init), (RX10, 32, yX0_init), (RX10, 39, yX4_init), (RX10, 46, yX8_init), (RX10, 53, yX3_init)]
def gq_N (z : Nat → Nat) (cI : ClassId) (U : State) : Prop := (∀ q ∈ gq_nl, va_Nw (.methodLinkNest q.1 q.2.1 q.2.2 RX10) U) ∧ va_Nw (.castable "[I" "java/lang/Cloneable") U ∧ va_AO RX6 U ∧ ∃ scr : Cell, U.heap[z 2]? = some scr ∧ scr.cls = cI
theorem gq_N.to {z : Nat → Nat} {cI : ClassId} {s U : State} (h : gq_N z cI s) (hW : s.WarmedH U.vm) (hh : U.heap[z 2]? = s.heap[z 2]?) : gq_N z cI U :=
  ⟨fun w hw => va_Nw.warmM hW (h.1 w hw), va_Nw.warmC hW h.2.1, va_AO.moved hW.alike h.2.2.1, by obtain ⟨scr, h1, h2⟩ := h.2.2.2; exact ⟨scr, hh.trans h1, h2⟩⟩
def gq_Pn (D : va_G) (T : List (ClassId × FieldType)) (cI : ClassId) (z : Nat → Nat) (As : List Value) (WS : va_W) (sz : Nat) : Array Value → State → Prop := fun a U => gq_Pc D T z As WS sz a U ∧ gq_N z cI U
theorem gq_Nblind {D : va_G} {T : List (ClassId × FieldType)} {cI : ClassId} {z : Nat → Nat} {As : List Value} {WS : va_W} {sz : Nat} : FrameBlind (gq_Pn D T cI z As WS sz) := fun a U g mk q =>
  ⟨gq_blind a U g mk q.1, fun w h => va_Nw.same rfl (u := U) rfl (q.2.1 w h), va_Nw.same rfl (u := U) rfl q.2.2.1, va_AO.moved (u := U) (U := U.calling g mk a) (Vm.Alike.refl U.vm) q.2.2.2.1, q.2.2.2.2⟩
def gq_Cq (below : List Frame) (D : va_G) (A : Nat → Prop) (args : Array Value) (s : State) (Φ : va_W → Prop) (k n : Nat) : State → Prop := MQ below (va_Qv Φ (fun W' t => va_P D gq_cl W' t.heap ∧ va_D A W') A) args s k n A
def Cv (l : Launch) (y : MethodName) (wy : List Cond) (rm : Room) (D : va_G) (T : List (ClassId × FieldType)) (cI : ClassId) (z : Nat → Nat) (As : List Value) (WS : va_W) (Φ : va_W → Prop) (k n : Nat) : Prop :=
  ∀ sz : Nat, Met l y wy rm (gq_Pn D T cI z As WS sz) (va_Qv Φ (fun W' t => va_P D gq_cl W' t.heap ∧ va_D (va_A WS sz) W') (va_A WS sz)) k n (va_A WS sz)
theorem Cv.of {l : Launch} {y : MethodName} {wy ws' : List Cond} {rm : Room} {D : va_G} {T : List (ClassId × FieldType)} {cI : ClassId} {z : Nat → Nat} {As : List Value} {WS : va_W} {Φ : va_W → Prop} {k n : Nat} {cc : ByteArray} {maxL : Nat} (hy : plainName y.cls = true) (hnm : y.name = "<init>") (hw : wy = Cond.code y cc maxL none :: ws') (hlen : (lg_sl As).length ≤ maxL)
    (body : ∀ (p : Program) (e : Env) (s : State) (m : MethodId) (args : Array Value) (below : List Frame) (meth : Method) (c : Code) (A : Nat → Prop), Gc p rm s m args meth c D T A maxL cc y.cls wy none 0 0 z → gq_N z cI s → meth.name = "<init>" → Gx p l e rm s m args below meth c D A maxL (gq_Cq below D A args s Φ k n) 0 0 0 (lv_args 0 As) [] WS) : Cv l y wy rm D T cI z As WS Φ k n := by
  intro sz
  refine Met.ofW (cc := cc) (maxL := maxL) (ret := none) hy hw ?_
  intro p e s m args below meth c s₁ B hml hv
  obtain ⟨⟨rfl, hsz, hP, hK, hD0, hZ⟩, hN⟩ := hv
  subst hsz
  have hD := hD0.self (sz := s.heap.size)
  have hl := lv_entry As (n := maxL) hlen
  rw [lg_entry_eq]
  exact body p e s m _ below meth c _ ⟨B.exec, B.bytes, hml, findClass_of_methodNamed B.named, atoms_spec (ws := wy) B.pre, hK, (fun q h => Or.inr h), ⟨Nat.zero_le _, Nat.zero_le _⟩, B.returns, B.notSynchronized, hZ⟩ hN ((name_of_methodNamed B.named B.method).1.trans hnm) s.heap [] _ hP hD va_S.rf hl
section GCT
variable {p : Program} {l : Launch} {e : Env} {R : Room} {s : State} {m : MethodId} {args : Array Value} {below : List Frame} {meth : Method} {c : Code} {D : va_G} {T : List (ClassId × FieldType)} {z : Nat → Nat} {A : Nat → Prop} {nL : Nat} {Q : State → Prop} {k n : Nat}
variable {cc : ByteArray} {own : String} {Ts : List Cond} {ret : Option FieldType}
variable {y : MethodName} {wy ws' : List Cond} {rm : Room} {ws : va_W} {pc : Nat} {lv : List (Nat × Value)} {st : List Value}
theorem gq_cret {Φ : va_W → Prop} {mc ms : Nat} (hC : Gc p R s m args meth c D T A nL cc own Ts none k n z) (h1 : k ≤ mc) (h2 : n ≤ ms) (hΦ : Φ ws) (hd : decode cc pc = .ok (.return_, 1)) : Gx p l e R s m args below meth c D A nL (gq_Cq below D A args s Φ mc ms) k n pc lv [] ws :=
  fun _ _ _ hP hD hS _ => W.widen h1 h2 (W.vret hC.1 hC.2.1 hC.2.2.2.2.2.2.2.2.1 (fun _ ht _ => ⟨⟨ws, rfl, hΦ, by subst ht; exact ⟨hP, hD⟩⟩, hS.F ht⟩) hS.2.2 hd hC.2.2.2.2.2.2.2.2.2.1)
theorem gq_oinit (hC : Gc p R s m args meth c D T A nL cc own Ts ret k n z) {a ix : Nat} (h1 : Cond.methodLink own ix objectInit ∈ Ts) (h2 : Cond.instanceMethod objectInit ∈ Ts) (h3 : Cond.code objectInit ⟨#[0xb1]⟩ 1 none ∈ Ts) (hd : decode cc pc = .ok (.invokespecial ix, 3)) (hR : 1 ≤ R.frames ∧ (st.map fun v => v.category).sum + 12 ≤ R.locals) (kk : Gx p l e R s m args below meth c D A nL Q k n (pc + 3) lv st ws) : Gx p l e R s m args below meth c D A nL Q k n pc lv (.ref a :: st) ws :=
  fun H locs ls hP hD hS hl => W.objInit hC.1 hC.2.1 hC.2.2.2.1 (hC.2.2.2.2.1 _ h1) (hC.2.2.2.2.1 _ h2) (hC.2.2.2.2.1 _ h3) rfl (hl.1.trans hC.2.2.1.symm) rfl hd hR.1 (by show 2 * 0 + (st.map fun v => v.category).sum + 12 ≤ R.locals; omega) (kk H locs ls hP hD hS hl)
theorem gq_newI (hC : Gc p R s m args meth c D T A nL cc own Ts ret k n z) {v : Int32} {N t0 : Nat} {cA : ClassId} (hAr : Cond.arrayClass .int ∈ Ts) (ht : T[t0]? = some (cA, .int)) (hn : ¬ v < 0) (hN : v.toNatClampNeg = N) (hb : N * 4 ≤ 536870912) (hkc : k + 1 ≤ R.cells ∧ n + N ≤ R.slots) (hd : decode cc pc = .ok (.newarray .int, 2)) (kk : ∀ q : Nat, Gx p l e R s m args below meth c D A nL Q (k + 1) (n + N) (pc + 2) lv (.ref q :: st) (ws ++ [(q, .inl (cA, N, .inl (fun _ => 0)))])) : Gx p l e R s m args below meth c D A nL Q k n pc lv (.int v :: st) ws :=
  fun H locs ls hP hD hS hl => va_newa (atype := .int) hC.1 hC.2.1 (hC.2.2.2.2.1 _ hAr) (ty := .int) rfl hC.2.2.2.2.2.1.1 hP hD hS hC.2.2.2.2.2.2.1 (a0 := (N, .inl (fun _ => 0))) (fun _ => rfl) hn hN hb hkc.1 hkc.2 hd (fun q cB H1 hK1 hP1 hD1 hS1 => by
    have h1 : va_RA s cB .int := (hK1.2 T.length (cB, .int) (by simp)).2
    have h2 : va_RA s cA .int := (hC.2.2.2.2.2.1.1.2 t0 (cA, .int) ht).2
    obtain rfl : cB = cA := Option.some.inj (h1.symm.trans h2)
    exact kk q H1 locs ls hP1 hD1 hS1 hl)
theorem gq_newJ (hC : Gc p R s m args meth c D T A nL cc own Ts ret k n z) {v : Int32} {N t0 : Nat} {cA : ClassId} (hAr : Cond.arrayClass .long ∈ Ts) (ht : T[t0]? = some (cA, .long)) (hn : ¬ v < 0) (hN : v.toNatClampNeg = N) (hb : N * 8 ≤ 536870912) (hkc : k + 1 ≤ R.cells ∧ n + N ≤ R.slots) (hd : decode cc pc = .ok (.newarray .long, 2)) (kk : ∀ q : Nat, Gx p l e R s m args below meth c D A nL Q (k + 1) (n + N) (pc + 2) lv (.ref q :: st) (ws ++ [(q, .inl (cA, N, .inr (.inl (fun _ => 0))))])) : Gx p l e R s m args below meth c D A nL Q k n pc lv (.int v :: st) ws :=
  fun H locs ls hP hD hS hl => va_newa (atype := .long) hC.1 hC.2.1 (hC.2.2.2.2.1 _ hAr) (ty := .long) rfl hC.2.2.2.2.2.1.1 hP hD hS hC.2.2.2.2.2.2.1 (a0 := (N, .inr (.inl (fun _ => 0)))) (fun _ => rfl) hn hN hb hkc.1 hkc.2 hd (fun q cB H1 hK1 hP1 hD1 hS1 => by
    have h1 : va_RA s cB .long := (hK1.2 T.length (cB, .long) (by simp)).2
    have h2 : va_RA s cA .long := (hC.2.2.2.2.2.1.1.2 t0 (cA, .long) ht).2
    obtain rfl : cB = cA := Option.some.inj (h1.symm.trans h2)
    exact kk q H1 locs ls hP1 hD1 hS1 hl)
theorem gq_newZ (hC : Gc p R s m args meth c D T A nL cc own Ts ret k n z) {v : Int32} {N t0 : Nat} {cA : ClassId} (hAr : Cond.arrayClass .boolean ∈ Ts) (ht : T[t0]? = some (cA, .boolean)) (hn : ¬ v < 0) (hN : v.toNatClampNeg = N) (hb : N * 1 ≤ 536870912) (hkc : k + 1 ≤ R.cells ∧ n + N ≤ R.slots) (hd : decode cc pc = .ok (.newarray .boolean, 2)) (kk : ∀ q : Nat, Gx p l e R s m args below meth c D A nL Q (k + 1) (n + N) (pc + 2) lv (.ref q :: st) (ws ++ [(q, .inl (cA, N, .inl (fun _ => 0)))])) : Gx p l e R s m args below meth c D A nL Q k n pc lv (.int v :: st) ws :=
  fun H locs ls hP hD hS hl => va_newa (atype := .boolean) hC.1 hC.2.1 (hC.2.2.2.2.1 _ hAr) (ty := .boolean) rfl hC.2.2.2.2.2.1.1 hP hD hS hC.2.2.2.2.2.2.1 (a0 := (N, .inl (fun _ => 0))) (fun _ => rfl) hn hN hb hkc.1 hkc.2 hd (fun q cB H1 hK1 hP1 hD1 hS1 => by
    have h1 : va_RA s cB .boolean := (hK1.2 T.length (cB, .boolean) (by simp)).2
    have h2 : va_RA s cA .boolean := (hC.2.2.2.2.2.1.1.2 t0 (cA, .boolean) ht).2
    obtain rfl : cB = cA := Option.some.inj (h1.symm.trans h2)
    exact kk q H1 locs ls hP1 hD1 hS1 hl)
theorem gq_newQ (hC : Gc p R s m args meth c D T A nL cc own Ts ret k n z) {v : Int32} {N t0 ix : Nat} {cA : ClassId} {C : String} (hcl : Cond.classLink own ix C ∈ Ts) (hover : va_AO C s) (ht : T[t0]? = some (cA, .object C)) (hn : ¬ v < 0) (hN : v.toNatClampNeg = N) (hb : N * 4 ≤ 536870912) (hkc : k + 1 ≤ R.cells ∧ n + N ≤ R.slots) (hd : decode cc pc = .ok (.anewarray ix, 3)) (kk : ∀ q : Nat, Gx p l e R s m args below meth c D A nL Q (k + 1) (n + N) (pc + 3) lv (.ref q :: st) (ws ++ [(q, .inl (cA, N, .inr (.inr (.inr (.inr (fun _ => none))))))])) : Gx p l e R s m args below meth c D A nL Q k n pc lv (.int v :: st) ws :=
  fun H locs ls hP hD hS hl => va_newq hC.1 hC.2.1 hC.2.2.2.1 (hC.2.2.2.2.1 _ hcl) hover hC.2.2.2.2.2.1.1 hP hD hS hC.2.2.2.2.2.2.1 hn hN hb hkc.1 hkc.2 hd (fun q cB H1 hK1 hP1 hD1 hS1 => by
    obtain ⟨-, -, -, -, -, h1⟩ := (hK1.2 T.length (cB, .object C) (by simp)).2
    obtain ⟨-, -, -, -, -, h2⟩ := (hC.2.2.2.2.2.1.1.2 t0 (cA, .object C) ht).2
    obtain rfl : cB = cA := Option.some.inj (h1.symm.trans h2)
    exact kk q H1 locs ls hP1 hD1 hS1 hl)
theorem gq_aastq (hC : Gc p R s m args meth c D T A nL cc own Ts ret k n z) {a v N ci : Nat} {cA : ClassId} {r : vw_C} {vs : List Value} {f : Nat → Option Nat} {i : Int32} (q0 t0 qk : Nat) (ws2 : va_W) (he : ws[q0]? = some (a, .inl (cA, N, .inr (.inr (.inr (.inr f)))))) (ht : T[t0]? = some (cA, .object r.1)) (hv : ws[qk]? = some (v, .inr (ci, vs))) (hc : gq_cl[ci]? = some r) (hi : vp_in i N) (hd : decode cc pc = .ok (.aastore, 1)) (hnew : ws.set q0 (a, .inl (cA, N, .inr (.inr (.inr (.inr (va_up f i.toNatClampNeg (some v))))))) = ws2) (kk : Gx p l e R s m args below meth c D A nL Q k n (pc + 1) lv st ws2) : Gx p l e R s m args below meth c D A nL Q k n pc lv (.ref v :: .int i :: .ref a :: st) ws :=
  fun H locs ls hP hD hS hl => va_astq hC.1 hC.2.1 hC.2.2.2.2.2.1.1 hP hD hS q0 t0 qk ci he ht hv hc hi hd (fun H1 locs1 hP1 hD1 hS1 => kk H1 locs1 ls (by rw [← hnew]; exact hP1) (by rw [← hnew]; exact hD1) hS1 hl)
theorem gq_putF (hC : Gc p R s m args meth c D T A nL cc own Ts ret k n z) {ix kf ci a N : Nat} {C : String} {TT : u_T} {fs : List Value} {v : Value} (q0 : Nat) (ws2 : va_W) (hin2 : meth.name = "<init>") (ty0 : Nat → FieldType) (hty : ∀ k, k < N → parseFieldDescriptor (TT k).2.2.1 = some (ty0 k)) (hnm : ∀ a, a < N → ∀ b, b < N → a ≠ b → (TT a).2.1 ≠ (TT b).2.1) (hin : ∀ w ∈ u_ws C TT N, w ∈ Ts) (he : ws[q0]? = some (a, .inr (ci, fs))) (hc : gq_cl[ci]? = some (C, TT, N)) (hk : kf < N) (hw : Cond.fieldLink own ix (TT kf).1 (TT kf).2.1 (TT kf).2.2.1 ∈ Ts) (hfin : (TT kf).2.2.2 = true) (hdecl : (TT kf).1 = own) (hn : narrow (ty0 kf) v = v) (hfit : fits (ty0 kf) v = true) (hlen : kf < fs.length) (hd : decode cc pc = .ok (.putfield ix, 3)) (hnew : ws.set q0 (a, .inr (ci, fs.set kf v)) = ws2) (kk : Gx p l e R s m args below meth c D A nL Q k n (pc + 3) lv st ws2) : Gx p l e R s m args below meth c D A nL Q k n pc lv (v :: .ref a :: st) ws :=
  fun H locs ls hP hD hS hl => va_putF hC.1 hC.2.1 hC.2.2.2.2.1 hin ty0 hty hnm hC.2.2.2.1 hC.2.2.2.2.2.1.1 hP hD hS q0 he hc kf hk (hC.2.2.2.2.1 _ hw) (fun _ h => h) hfin hin2 hdecl (hty kf hk) hn hfit hlen hd (fun H1 locs1 hP1 hD1 hS1 => kk H1 locs1 ls (by rw [← hnew]; exact hP1) (by rw [← hnew]; exact hD1) hS1 hl)
theorem gq_castI (hC : Gc p R s m args meth c D T A nL cc own Ts ret k n z) {a ix t0 : Nat} {cA : ClassId} {x : vp_A} (q0 : Nat) (hw : Cond.classLink own ix "[I" ∈ Ts) (he : ws[q0]? = some (a, .inl (cA, x))) (ht : T[t0]? = some (cA, .int)) (hd : decode cc pc = .ok (.checkcast ix, 3)) (kk : Gx p l e R s m args below meth c D A nL Q k n (pc + 3) lv (.ref a :: st) ws) : Gx p l e R s m args below meth c D A nL Q k n pc lv (.ref a :: st) ws :=
  fun H locs ls hP hD hS hl => va_castA hC.1 hC.2.1 hC.2.2.2.1 (hC.2.2.2.2.1 _ hw) hP q0 he (hC.2.2.2.2.2.1.1.2 t0 (cA, .int) ht).2 hd (kk H locs ls hP hD hS hl)
theorem gq_cloneF (hC : Gc p R s m args meth c D T A nL cc own Ts ret k n z) {ix t0 : Nat} {cI : ClassId} (hN : gq_N z cI s) (h1 : Cond.methodLink own ix ⟨"[I", "clone", "()Ljava/lang/Object;"⟩ ∈ Ts) (h2 : Cond.sameMethod "[I" "java/lang/Object" "clone" "()Ljava/lang/Object;" ∈ Ts) (h3 : Cond.native ⟨"java/lang/Object", "clone", "()Ljava/lang/Object;"⟩ ∈ Ts) (h4 : Cond.instanceMethod ⟨"java/lang/Object", "clone", "()Ljava/lang/Object;"⟩ ∈ Ts) (h5 : Cond.selects "[I" ⟨"[I", "clone", "()Ljava/lang/Object;"⟩ ⟨"java/lang/Object", "clone", "()Ljava/lang/Object;"⟩ ∈ Ts) (ht : T[t0]? = some (cI, .int)) (hR : 1 ≤ R.frames ∧ (st.map fun v => v.category).sum + 14 ≤ R.locals) (hkc : k + 1 ≤ R.cells ∧ n + 6 ≤ R.slots) (hd : decode cc pc = .ok (.invokevirtual ix, 3)) (kk : ∀ q : Nat, Gx p l e R s m args below meth c D A nL Q (k + 1) (n + 6) (pc + 3) lv (.ref q :: st) (ws ++ [(q, .inl (cI, 6, .inl gq_first))])) : Gx p l e R s m args below meth c D A nL Q k n pc lv (.ref (z 2) :: st) ws := by
  intro H locs ls hP hD hS hl
  have hZ := hC.2.2.2.2.2.2.2.2.2.2
  obtain ⟨scr, g1, g2, g3, g4, g5⟩ := hZ.2.2.1.2.1
  have hlt := hZ.2.2.1.2.2.1
  have hnA := hZ.2.2.1.2.2.2
  obtain ⟨scr2, g6, g7⟩ := hN.2.2.2
  cases Option.some.inj (g1.symm.trans g6)
  have hK := hC.2.2.2.2.2.1.1
  have hnm : s.vm.findClass "[I" = some cI := (hK.2 t0 (cI, .int) ht).2
  obtain ⟨c0, t0', f1, f2, f3⟩ := Cond.castable_spec (va_Nw.use (A := args) rfl hN.2.1)
  cases Option.some.inj (hnm.symm.trans f1)
  have hslots : scr.slots = (vp_cell cI (6, .inl gq_first)).slots := by
    refine Array.ext_getElem? (fun j => ?_)
    by_cases hj : j < 6
    · rw [g5 j hj]; show some _ = (arrV cI 6 _).slots[j]?; rw [arrV_read _ _ hj]
    · rw [Array.getElem?_eq_none (by omega), Array.getElem?_eq_none (by show (arrV cI 6 _).slots.size ≤ j; rw [arrV_size]; omega)]
  intro T9 hT X
  have hcellT : T9.heap[z 2]? = some scr := by rw [hT, hS.2.1 _ hlt hnA]; exact g1
  obtain ⟨-, kA, hkA, comp, hkind⟩ := State.isArrayOf_alike X.warmed.alike ((hK.2 t0 _ ht).1 0 (fun _ => .null))
  obtain ⟨-, kS, hkS, compS, hkindS⟩ := (hK.2 t0 _ ht).1 0 (fun _ => .null)
  obtain ⟨vm', X', stp⟩ := X.cloneArray hC.1 hC.2.2.2.1 (hC.2.2.2.2.1 _ h1) (hC.2.2.2.2.1 _ h2) (hC.2.2.2.2.1 _ h3) (hC.2.2.2.2.1 _ h4) (hC.2.2.2.2.1 _ h5) (a := z 2) (cell := scr) hcellT g2.1 g3 (by rw [g7]; exact hnm) f2 (by rw [g7]; exact f3)
    (fun i v hv => by
      rw [g7]
      have hk' : T9.vm.classes[cI]? = some kA := hkA
      have h9 : i < 6 := by rw [← g4]; exact (Array.getElem?_eq_some_iff.mp hv).1
      rw [g5 i h9] at hv
      cases hv
      simp [State.fitsSlot, State.slotType?, hk', hkind, fits])
    (g := F0 m pc ls (.ref (z 2) :: st)) rfl (hl.1.trans hC.2.2.1.symm) rfl (by rw [hC.2.1]; exact hd) hR.1 (by show 2 * 0 + (st.map fun v => v.category).sum + 14 ≤ R.locals; omega) hkc.1 (by rw [g4]; exact hkc.2) (hloader := by rw [g7]; exact Vm.clonesLoader_of_array hkS hkindS)
  have hcellE : ({ cls := scr.cls, slots := scr.slots } : Cell) = vp_cell cI (6, .inl gq_first) := by rw [g7, hslots]; rfl
  rw [hcellE, g4] at X'
  generalize hH1 : H.push (vp_cell cI (6, .inl gq_first)) = H1
  have z1 : H1.size = H.size + 1 := by rw [← hH1, Array.size_push]
  have e1 : H1[H.size]? = some (vp_cell cI (6, .inl gq_first)) := by rw [← hH1, Array.getElem?_push_size]
  have o1 : ∀ q : Nat, q < H.size → H1[q]? = H[q]? := fun q hq => by rw [← hH1, Array.getElem?_push, if_neg (Nat.ne_of_lt hq)]
  have hk : ∀ (k : Nat) (y : Nat × va_E), ws[k]? = some y → H1[y.1]? = H[y.1]? := fun k y hy => o1 y.1 ((hP k y hy).lt)
  obtain ⟨t, b1, b2⟩ := kk H.size H1 locs ls ((hP.kept hk).app (fun k y hy => by
      have hz : k < 1 := (List.getElem?_eq_some_iff.mp hy).1
      rw [show k = 0 by omega] at hy
      cases hy
      exact e1)) (hD.push hP rfl (hC.2.2.2.2.2.2.1 _ hS.1)) ⟨Nat.le_trans hS.1 (by omega), fun y h1 h2 => (o1 y (Nat.lt_of_lt_of_le h1 hS.1)).trans (hS.2.1 y h1 h2), hS.2.2⟩ hl
    ((T9.setVm vm').pushCell (vp_cell cI (6, .inl gq_first))) (by rw [← hH1, ← hT]; rfl) X'
  refine ⟨t, stp t ?_, b2⟩
  rw [hcellE, hT]
  exact b1
/-- a new object and its constructor -/
theorem gq_newC {Φ : Nat → va_W → Prop} {ix ix2 N ci maxL kc nc : Nat} {C : String} {TT : u_T} {fs : List Value} {bytes : ByteArray} {cI : ClassId} (hC : Gc p R s m args meth c D T A nL cc own Ts ret k n z) (hN : gq_N z cI s) (ty0 : Nat → FieldType) (hin : ∀ w ∈ u_ws C TT N, w ∈ Ts) (hty : ∀ k, k < N → parseFieldDescriptor (TT k).2.2.1 = some (ty0 k)) (hc : gq_cl[ci]? = some (C, TT, N)) (hfs : ∀ j, j < N → defaultValue (ty0 j) = vp_V fs j)
    (hw3 : Cond.classLink own ix C ∈ Ts ∧ Cond.instantiable C N ∈ Ts ∧ Cond.initialized C ∈ Ts) (hM : ∀ q : Nat, Cv l y wy rm D T cI z [.ref q] [(q, .inr (ci, fs))] (Φ q) kc nc) (hg : GoodIn Ts wy) (hw : wy = Cond.code y bytes maxL none :: ws') (hrm : rm.cells = kc ∧ rm.slots = nc) (hyc : y.cls = C ∧ y.name = "<init>") (hy : y.cls ≠ "java/lang/invoke/MethodHandle" ∧ y.cls ≠ "java/lang/invoke/VarHandle" ∧ (parseMethodDescriptor y.desc).map (fun d => d.parameters.length) = some 0) (him : Cond.instanceMethod y ∈ Ts)
    (hlk : va_Nw (.methodLinkNest own ix2 y RX10) s ∨ Cond.methodLink own ix2 y ∈ Ts) (hR : rm.frames + 1 ≤ R.frames ∧ 8 + (maxL + 11) + rm.locals ≤ R.locals) (hkc : k + 1 + kc ≤ R.cells ∧ n + N + nc ≤ R.slots) (hst : 1 + (st.map fun v => v.category).sum ≤ 8)
    (d0 : decode cc pc = .ok (.new ix, 3)) (d3 : decode cc (pc + 3) = .ok (.dup, 1)) (d4 : decode cc (pc + 3 + 1) = .ok (.invokespecial ix2, 3)) (kk : ∀ (q : Nat) (W' : va_W), Φ q W' → Gx p l e R s m args below meth c D A nL Q (k + 1 + kc) (n + N + nc) (pc + 3 + 1 + 3) lv (.ref q :: st) (ws ++ W')) : Gx p l e R s m args below meth c D A nL Q k n pc lv st ws := by
  intro H locs ls hP hD hS hl
  refine va_new (ci := ci) (fs := fs) (C := C) (T := TT) (N := N) hC.1 hC.2.1 hC.2.2.2.2.1 hin ty0 hty hC.2.2.2.1 (hC.2.2.2.2.1 _ hw3.1) (hC.2.2.2.2.1 _ hw3.2.1) (hC.2.2.2.2.1 _ hw3.2.2) hC.2.2.2.2.2.1.1 hP hD hS hC.2.2.2.2.2.2.1 hc hfs (by omega) (by omega) d0 (fun q H1 hP1 hD1 hS1 => ?_)
  refine lv_dup hC.1 hC.2.1 d3 rfl ?_
  have hPc : va_P D gq_cl [(q, .inr (ci, fs))] H1 := gq_appR hP1
  have hDc := gq_appDR hD1
  have hZ := hC.2.2.2.2.2.2.2.2.2.2
  have hF : ∀ x, va_A [(q, .inr (ci, fs))] H1.size x → A x := by
    rintro x (⟨k9, e9, h9⟩ | h9)
    · exact hDc.2 k9 _ h9
    · exact hC.2.2.2.2.2.2.1 x (Nat.le_trans hS1.1 h9)
  have hpre : ∀ U : State, U.heap = H1 → s.WarmedH U.vm → gq_Pn D T cI z [.ref q] [(q, .inr (ci, fs))] H1.size [Value.ref q].toArray U := fun U hU hW =>
    ⟨⟨rfl, by rw [hU], by rw [hU]; exact hPc, hC.2.2.2.2.2.1.warm hW, hDc.weaken (fun _ _ _ _ => trivial), by subst hU; exact hZ.to hW hS1.2.1 hS1.1 hF⟩, hN.to hW (by rw [hU]; exact hS1.2.1 _ hZ.2.2.1.2.2.1 hZ.2.2.1.2.2.2)⟩
  have hini : (Cond.initialized y.cls).before args s = true := by rw [hyc.1]; exact hC.2.2.2.2.1 _ hw3.2.2
  have hrun : va_Run p l e R s m args below meth c H1 locs (k + 1) (n + N) kc nc (F0 m (pc + 3 + 1) ls (.ref q :: .ref q :: st)) (.ref q :: st) (va_Qv (Φ q) (fun W' t => va_P D gq_cl W' t.heap ∧ va_D (va_A [(q, .inr (ci, fs))] H1.size) W') (va_A [(q, .inr (ci, fs))] H1.size) [Value.ref q].toArray) (va_A [(q, .inr (ci, fs))] H1.size) := by
    rcases hlk with h | h
    · exact va_runIN (As := []) (rest := .ref q :: st) ⟨hC.1, hC.2.1, hC.2.2.1, hC.2.2.2.1, hC.2.2.2.2.1⟩ (hM q H1.size) ⟨va_cnB 0 hC.2.2.2.2.1 hg hw hrm.1 hrm.2 h hini hy hR, hyc.2, hC.2.2.2.2.1 _ him⟩ ⟨gq_Nblind, hpre⟩ rfl rfl hl.1 rfl (lv_room hst) d4 hkc
    · exact va_runI (As := []) (rest := .ref q :: st) ⟨hC.1, hC.2.1, hC.2.2.1, hC.2.2.2.1, hC.2.2.2.2.1⟩ (hM q H1.size) (cwI 0 hC.2.2.2.2.1 hg hw hrm.1 hrm.2 hini (hC.2.2.2.2.1 _ h) (hC.2.2.2.2.1 _ him) hyc.2 hy hR) ⟨gq_Nblind, hpre⟩ rfl rfl hl.1 rfl (lv_room hst) d4 hkc
  refine va_callv hrun hS1 (fun q _ h => hF q h) hF (fun W' t H2 locs1 ht hvm hw2 hB hz1 hk1 hS2 => ?_)
  obtain ⟨hB1, hB2⟩ := hB
  rw [ht] at hB1
  have hx : ∀ (i j : Nat) (x y : Nat × va_E), ws[i]? = some x → [(q, (.inr (ci, fs) : va_E))][j]? = some y → x.1 ≠ y.1 := fun i j x y hx hy => gq_appDX hD1 hx hy
  refine kk q W' hw2 H2 locs1 ls (gq_app (gq_beside (A := A) (gq_appL hP1) hx (gq_ad_D hDc) hk1) hB1) (gq_appD (gq_appDL hD1) ⟨hB2.1, fun k9 q9 h9 => hF _ (hB2.2 k9 q9 h9)⟩ (fun i j x y hi hj hxy => ?_)) hS2 hl
  rcases hB2.2 j y hj with ⟨k9, e9, h9⟩ | h9
  · exact hx i k9 x _ hi h9 hxy
  · have h8 := (gq_appL hP1 i x hi).lt
    omega
end GCT
