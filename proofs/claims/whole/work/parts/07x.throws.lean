/-! ===== methods that may throw ===== -/
def gq_en : Nat → String := fun c => if c = 1 then "java/lang/IllegalStateException" else if c = 2 then "java/lang/IllegalArgumentException" else if c = 3 then "java/lang/IndexOutOfBoundsException" else "java/util/NoSuchElementException"
def rmX (d k : Nat) : Room := { frames := d, cells := k, slots := 6 * k, locals := 40 * d }
def gq_XC {α : Type} (D : va_G) (A : Nat → Prop) (x : Nat ⊕ α) (WS' : va_W) : String → State → State → Prop := vx_X (fun c : Nat => x = .inl c) (fun E c t => E = gq_en c ∧ va_P D gq_cl WS' t.heap) A
def gq_Qxi (D : va_G) (A : Nat → Prop) (x : Nat ⊕ Int32) (WS' : va_W) : Array Value → State → Outcome → State → Prop := va_Qi (fun (r : Int32) (_ : Unit) => x = .inr r) (fun _ t => va_P D gq_cl WS' t.heap) A
def gq_Xi (below : List Frame) (D : va_G) (A : Nat → Prop) (args : Array Value) (s : State) (x : Nat ⊕ Int32) (WS' : va_W) (mc ms : Nat) : State → Prop := vx_MQ below (gq_Qxi D A x WS') (gq_XC D A x WS') args s mc ms A
def Xi (l : Launch) (y : MethodName) (wy : List Cond) (rm : Room) (D : va_G) (T : List (ClassId × FieldType)) (z : Nat → Nat) (As : List Value) (WS : va_W) (x : Nat ⊕ Int32) (WS' : va_W) (mc ms : Nat) : Prop := ∀ sz : Nat, vx_Met l y wy rm (gq_Pc D T z As WS sz) (gq_Qxi D (va_A WS sz) x WS') (gq_XC D (va_A WS sz) x WS') mc ms (va_A WS sz)
def gq_Qxl (D : va_G) (A : Nat → Prop) (x : Nat ⊕ Int64) (WS' : va_W) : Array Value → State → Outcome → State → Prop := va_Ql (fun (r : Int64) (_ : Unit) => x = .inr r) (fun _ t => va_P D gq_cl WS' t.heap) A
def gq_Xl (below : List Frame) (D : va_G) (A : Nat → Prop) (args : Array Value) (s : State) (x : Nat ⊕ Int64) (WS' : va_W) (mc ms : Nat) : State → Prop := vx_MQ below (gq_Qxl D A x WS') (gq_XC D A x WS') args s mc ms A
def Xl (l : Launch) (y : MethodName) (wy : List Cond) (rm : Room) (D : va_G) (T : List (ClassId × FieldType)) (z : Nat → Nat) (As : List Value) (WS : va_W) (x : Nat ⊕ Int64) (WS' : va_W) (mc ms : Nat) : Prop := ∀ sz : Nat, vx_Met l y wy rm (gq_Pc D T z As WS sz) (gq_Qxl D (va_A WS sz) x WS') (gq_XC D (va_A WS sz) x WS') mc ms (va_A WS sz)
def gq_Qxv (D : va_G) (A : Nat → Prop) (x : Nat ⊕ Unit) (WS' : va_W) : Array Value → State → Outcome → State → Prop := va_Qv (fun (_ : Unit) => x = .inr ()) (fun _ t => va_P D gq_cl WS' t.heap) A
def gq_Xv (below : List Frame) (D : va_G) (A : Nat → Prop) (args : Array Value) (s : State) (x : Nat ⊕ Unit) (WS' : va_W) (mc ms : Nat) : State → Prop := vx_MQ below (gq_Qxv D A x WS') (gq_XC D A x WS') args s mc ms A
def Xv (l : Launch) (y : MethodName) (wy : List Cond) (rm : Room) (D : va_G) (T : List (ClassId × FieldType)) (z : Nat → Nat) (As : List Value) (WS : va_W) (x : Nat ⊕ Unit) (WS' : va_W) (mc ms : Nat) : Prop := ∀ sz : Nat, vx_Met l y wy rm (gq_Pc D T z As WS sz) (gq_Qxv D (va_A WS sz) x WS') (gq_XC D (va_A WS sz) x WS') mc ms (va_A WS sz)
section GXM
variable {l : Launch} {y : MethodName} {wy ws' : List Cond} {rm : Room} {D : va_G} {T : List (ClassId × FieldType)} {z : Nat → Nat} {As : List Value} {WS WS' : va_W} {mc ms : Nat} {cc : ByteArray} {maxL : Nat}
theorem gq_xbody {ret : Option FieldType} {Qc : Array Value → State → Outcome → State → Prop} {XC : String → State → State → Prop} {sz : Nat} (hy : plainName y.cls = true) (hw : wy = Cond.code y cc maxL ret :: ws') (hlen : (lg_sl As).length ≤ maxL)
    (body : ∀ (p : Program) (e : Env) (s : State) (m : MethodId) (args : Array Value) (below : List Frame) (meth : Method) (c : Code), s.heap.size = sz → Gc p rm s m args meth c D T (va_A WS s.heap.size) maxL cc y.cls wy ret 0 0 z → (∀ x ∈ c.exceptionTable.toList, False) → Gx p l e rm s m args below meth c D (va_A WS s.heap.size) maxL (vx_MQ below Qc XC args s mc ms (va_A WS sz)) 0 0 0 (lv_args 0 As) [] WS) : vx_Met l y wy rm (gq_Pc D T z As WS sz) Qc XC mc ms (va_A WS sz) := by
  refine vx_ofW (cc := cc) (maxL := maxL) (ret := ret) hy hw ?_
  intro p e s m args below meth c s₁ B hml hex hv
  obtain ⟨rfl, hsz, hP, hK, hD0, hZ⟩ := hv
  have hD := hD0.self (sz := s.heap.size)
  have hl := lv_entry As (n := maxL) hlen
  rw [lg_entry_eq]
  exact body p e s m _ below meth c hsz ⟨B.exec, B.bytes, hml, findClass_of_methodNamed B.named, atoms_spec (ws := wy) B.pre, hK, (fun q h => Or.inr h), ⟨Nat.zero_le _, Nat.zero_le _⟩, B.returns, B.notSynchronized, by rw [hsz]; exact hZ⟩ hex s.heap [] _ hP hD va_S.rf hl
theorem Xi.of {ty : FieldType} {x : Nat ⊕ Int32} (hy : plainName y.cls = true) (hw : wy = Cond.code y cc maxL (some ty) :: ws') (hlen : (lg_sl As).length ≤ maxL)
    (body : ∀ (p : Program) (e : Env) (s : State) (m : MethodId) (args : Array Value) (below : List Frame) (meth : Method) (c : Code) (A : Nat → Prop), Gc p rm s m args meth c D T A maxL cc y.cls wy (some ty) 0 0 z → (∀ x ∈ c.exceptionTable.toList, False) → Gx p l e rm s m args below meth c D A maxL (gq_Xi below D A args s x WS' mc ms) 0 0 0 (lv_args 0 As) [] WS) : Xi l y wy rm D T z As WS x WS' mc ms := fun sz =>
  gq_xbody hy hw hlen (fun p e s m args below meth c hsz hC hex => by subst hsz; exact body p e s m args below meth c _ hC hex)
theorem Xl.of {x : Nat ⊕ Int64} (hy : plainName y.cls = true) (hw : wy = Cond.code y cc maxL (some .long) :: ws') (hlen : (lg_sl As).length ≤ maxL)
    (body : ∀ (p : Program) (e : Env) (s : State) (m : MethodId) (args : Array Value) (below : List Frame) (meth : Method) (c : Code) (A : Nat → Prop), Gc p rm s m args meth c D T A maxL cc y.cls wy (some .long) 0 0 z → (∀ x ∈ c.exceptionTable.toList, False) → Gx p l e rm s m args below meth c D A maxL (gq_Xl below D A args s x WS' mc ms) 0 0 0 (lv_args 0 As) [] WS) : Xl l y wy rm D T z As WS x WS' mc ms := fun sz =>
  gq_xbody hy hw hlen (fun p e s m args below meth c hsz hC hex => by subst hsz; exact body p e s m args below meth c _ hC hex)
theorem Xv.of {x : Nat ⊕ Unit} (hy : plainName y.cls = true) (hw : wy = Cond.code y cc maxL none :: ws') (hlen : (lg_sl As).length ≤ maxL)
    (body : ∀ (p : Program) (e : Env) (s : State) (m : MethodId) (args : Array Value) (below : List Frame) (meth : Method) (c : Code) (A : Nat → Prop), Gc p rm s m args meth c D T A maxL cc y.cls wy none 0 0 z → (∀ x ∈ c.exceptionTable.toList, False) → Gx p l e rm s m args below meth c D A maxL (gq_Xv below D A args s x WS' mc ms) 0 0 0 (lv_args 0 As) [] WS) : Xv l y wy rm D T z As WS x WS' mc ms := fun sz =>
  gq_xbody hy hw hlen (fun p e s m args below meth c hsz hC hex => by subst hsz; exact body p e s m args below meth c _ hC hex)
end GXM
section GXR
variable {p : Program} {l : Launch} {e : Env} {R : Room} {s : State} {m : MethodId} {args : Array Value} {below : List Frame} {meth : Method} {c : Code} {D : va_G} {T : List (ClassId × FieldType)} {z : Nat → Nat} {A : Nat → Prop} {nL : Nat} {Q : State → Prop} {k n : Nat}
variable {cc : ByteArray} {own : String} {Ts : List Cond} {ret : Option FieldType}
variable {mc ms : Nat}
theorem gq_at (hC : Gc p R s m args meth c D T A nL cc own Ts ret k n z) {k' n' : Nat} (h : k' ≤ R.cells ∧ n' ≤ R.slots) : Gc p R s m args meth c D T A nL cc own Ts ret k' n' z := ⟨hC.1, hC.2.1, hC.2.2.1, hC.2.2.2.1, hC.2.2.2.2.1, hC.2.2.2.2.2.1, hC.2.2.2.2.2.2.1, h, hC.2.2.2.2.2.2.2.2⟩
theorem gq_widen {k' n' pc : Nat} {lv : List (Nat × Value)} {st : List Value} {ws : va_W} (h1 : k ≤ k') (h2 : n ≤ n') (kk : Gx p l e R s m args below meth c D A nL Q k' n' pc lv st ws) : Gx p l e R s m args below meth c D A nL Q k n pc lv st ws :=
  fun H locs ls hP hD hS hl => W.widen h1 h2 (kk H locs ls hP hD hS hl)
theorem gq_xiret {ty : FieldType} {r : Int32} (hC : Gc p R s m args meth c D T A nL cc own Ts (some ty) k n z) {pc : Nat} {lv : List (Nat × Value)} {ws : va_W} (h1 : k ≤ mc) (h2 : n ≤ ms) (hn : narrow ty (.int r) = .int r) (hd : decode cc pc = .ok (.ireturn, 1)) : Gx p l e R s m args below meth c D A nL (gq_Xi below D A args s (.inr r) ws mc ms) k n pc lv [.int r] ws :=
  fun _ _ _ hP _ hS _ => W.widen h1 h2 (vx_ret (W.zret hC.1 hC.2.1 hC.2.2.2.2.2.2.2.2.1 hn (fun _ ht _ => ⟨⟨r, (), rfl, rfl, by subst ht; exact hP⟩, hS.F ht⟩) hS.2.2 hd hC.2.2.2.2.2.2.2.2.2.1))
theorem gq_xlret {r : Int64} (hC : Gc p R s m args meth c D T A nL cc own Ts (some .long) k n z) {pc : Nat} {lv : List (Nat × Value)} {ws : va_W} (h1 : k ≤ mc) (h2 : n ≤ ms) (hd : decode cc pc = .ok (.lreturn, 1)) : Gx p l e R s m args below meth c D A nL (gq_Xl below D A args s (.inr r) ws mc ms) k n pc lv [.long r] ws :=
  fun _ _ _ hP _ hS _ => W.widen h1 h2 (vx_ret (W.lret hC.1 hC.2.1 hC.2.2.2.2.2.2.2.2.1 (fun _ ht _ => ⟨⟨r, (), rfl, rfl, by subst ht; exact hP⟩, hS.F ht⟩) hS.2.2 hd hC.2.2.2.2.2.2.2.2.2.1))
theorem gq_xvret (hC : Gc p R s m args meth c D T A nL cc own Ts none k n z) {pc : Nat} {lv : List (Nat × Value)} {ws : va_W} (h1 : k ≤ mc) (h2 : n ≤ ms) (hd : decode cc pc = .ok (.return_, 1)) : Gx p l e R s m args below meth c D A nL (gq_Xv below D A args s (.inr ()) ws mc ms) k n pc lv [] ws :=
  fun _ _ _ hP _ hS _ => W.widen h1 h2 (vx_ret (W.vret hC.1 hC.2.1 hC.2.2.2.2.2.2.2.2.1 (fun _ ht _ => ⟨⟨(), rfl, rfl, by subst ht; exact hP⟩, hS.F ht⟩) hS.2.2 hd hC.2.2.2.2.2.2.2.2.2.1))
theorem gq_throwS {Qc : Array Value → State → Outcome → State → Prop} {α : Type} {x : Nat ⊕ α} {ik is ic code pc : Nat} {text : String} {lv : List (Nat × Value)} {st : List Value} {ws : va_W} (hC : Gc p R s m args meth c D T A nL cc RX10 Ts ret k n z) (hex : ∀ x ∈ c.exceptionTable.toList, False) (hl : l.stackTraces = false)
    (hcls : Bundle.fit (gq_en code) = true) (hw : Cond.classLink RX10 ik (gq_en code) ∈ Ts ∧ Cond.initialized (gq_en code) ∈ Ts) (hgw : vx_ot (Cond.classLink RX10 ik (gq_en code)) = true ∧ vx_ot (Cond.initialized (gq_en code)) = true) (hmsg : (is, text) ∈ gq_msgs) (hat : ∀ w ∈ vx_atS RX10 ic (gq_en code) gq_nm, w ∈ gq_xw)
    (d0 : decode cc pc = .ok (.new ik, 3)) (d3 : decode cc (pc + 3) = .ok (.dup, 1)) (d4 : decode cc (pc + 4) = .ok (.ldc is, 2)) (d6 : decode cc (pc + 6) = .ok (.invokespecial ic, 3)) (d9 : decode cc (pc + 9) = .ok (.athrow, 1))
    (hR : 5 < R.frames ∧ (st.map fun v => v.category).sum + 82 ≤ R.locals ∧ k + 1 ≤ R.cells ∧ n + 6 ≤ R.slots) (hx : x = .inl code) (h1 : k + 1 ≤ mc) (h2 : n + 6 ≤ ms) : Gx p l e R s m args below meth c D A nL (vx_MQ below Qc (gq_XC D A x ws) args s mc ms A) k n pc lv st ws := by
  intro H locs ls hP hD hS hls
  have hZ := hC.2.2.2.2.2.2.2.2.2.2
  obtain ⟨sa, hstr⟩ := hZ.2.2.2.2.1.2.1 _ hmsg
  refine vx_throwS hC.1 hC.2.1 hl (own := RX10) (cls := gq_en code) (text := text) (names := gq_nm) (ik := ik) (is := is) (ic := ic) (sa := sa) (A := A) hC.2.2.2.1 hcls (by decide) (hC.2.2.2.2.1 _ hw.1) (hC.2.2.2.2.1 _ hw.2) hstr (fun w hw9 => va_tabs (gq_ok_on (gq_xw_good w (hat w hw9))) rfl (hZ.2.2.2.2.1.1 w (hat w hw9))) ?_ hZ.2.2.2.1.1 hZ.2.2.2.1.2 hS (hls.1.trans hC.2.2.1.symm) d0 d3 d4 d6 d9 (fun x hx9 => (hex x hx9).elim) hR.1 hR.2.1 hR.2.2.1 hR.2.2.2 hC.2.2.2.2.2.2.2.2.2.1 ?_ hS.2.2 h1 h2
  · intro w hw9
    rcases List.mem_cons.mp hw9 with rfl | hw9
    · exact hgw.1
    · rcases List.mem_cons.mp hw9 with rfl | hw9
      · exact hgw.2
      · have h9 := gq_ok_on (gq_xw_good w (hat w hw9))
        simp [vx_ot, h9]
  · intro t hvm hz hq
    refine ⟨code, hx, ⟨rfl, hP.kept (fun k9 q9 h9 => hq q9.1 (hP k9 q9 h9).lt)⟩, ?_, ?_⟩
    · exact Nat.le_trans hS.1 hz
    · intro q h3 h4
      rw [hq q (Nat.lt_of_lt_of_le h3 hS.1)]
      exact hS.2.1 q h3 h4
theorem gq_throwSW {Qc : Array Value → State → Outcome → State → Prop} {α : Type} {x : Nat ⊕ α} {ik is ic code pc : Nat} {text : String} {lv : List (Nat × Value)} {st : List Value} {ws : va_W} (hC : Gc p R s m args meth c D T A nL cc RX10 Ts ret k n z) (hex : ∀ x ∈ c.exceptionTable.toList, False) (hl : l.stackTraces = false)
    (hcls : Bundle.fit (gq_en code) = true) (hw : Cond.classLink RX10 ik (gq_en code) ∈ Ts ∧ Cond.initialized (gq_en code) ∈ Ts) (hgw : vx_ot (Cond.classLink RX10 ik (gq_en code)) = true ∧ vx_ot (Cond.initialized (gq_en code)) = true) (hmsg : (is, text) ∈ gq_msgs) (hat : ∀ w ∈ vx_atS RX10 ic (gq_en code) gq_nm, w ∈ gq_xw)
    (d0 : decode cc pc = .ok (.new ik, 3)) (d3 : decode cc (pc + 3) = .ok (.dup, 1)) (d4 : decode cc (pc + 4) = .ok (.ldc_w is, 3)) (d6 : decode cc (pc + 7) = .ok (.invokespecial ic, 3)) (d9 : decode cc (pc + 10) = .ok (.athrow, 1))
    (hR : 5 < R.frames ∧ (st.map fun v => v.category).sum + 82 ≤ R.locals ∧ k + 1 ≤ R.cells ∧ n + 6 ≤ R.slots) (hx : x = .inl code) (h1 : k + 1 ≤ mc) (h2 : n + 6 ≤ ms) : Gx p l e R s m args below meth c D A nL (vx_MQ below Qc (gq_XC D A x ws) args s mc ms A) k n pc lv st ws := by
  intro H locs ls hP hD hS hls
  have hZ := hC.2.2.2.2.2.2.2.2.2.2
  obtain ⟨sa, hstr⟩ := hZ.2.2.2.2.1.2.1 _ hmsg
  refine vx_throwSW hC.1 hC.2.1 hl (own := RX10) (cls := gq_en code) (text := text) (names := gq_nm) (ik := ik) (is := is) (ic := ic) (sa := sa) (A := A) hC.2.2.2.1 hcls (by decide) (hC.2.2.2.2.1 _ hw.1) (hC.2.2.2.2.1 _ hw.2) hstr (fun w hw9 => va_tabs (gq_ok_on (gq_xw_good w (hat w hw9))) rfl (hZ.2.2.2.2.1.1 w (hat w hw9))) ?_ hZ.2.2.2.1.1 hZ.2.2.2.1.2 hS (hls.1.trans hC.2.2.1.symm) d0 d3 d4 d6 d9 (fun x hx9 => (hex x hx9).elim) hR.1 hR.2.1 hR.2.2.1 hR.2.2.2 hC.2.2.2.2.2.2.2.2.2.1 ?_ hS.2.2 h1 h2
  · intro w hw9
    rcases List.mem_cons.mp hw9 with rfl | hw9
    · exact hgw.1
    · rcases List.mem_cons.mp hw9 with rfl | hw9
      · exact hgw.2
      · have h9 := gq_ok_on (gq_xw_good w (hat w hw9))
        simp [vx_ot, h9]
  · intro t hvm hz hq
    refine ⟨code, hx, ⟨rfl, hP.kept (fun k9 q9 h9 => hq q9.1 (hP k9 q9 h9).lt)⟩, ?_, ?_⟩
    · exact Nat.le_trans hS.1 hz
    · intro q h3 h4
      rw [hq q (Nat.lt_of_lt_of_le h3 hS.1)]
      exact hS.2.1 q h3 h4
section CalleeX
variable {y : MethodName} {wy ws' : List Cond} {rm : Room} {As rest : List Value} {ws WSc WSc' : va_W} {bytes : ByteArray} {maxL ix b nA pc q0 ci kc nc : Nat} {C : String} {q : vw_C} {fs : List Value} {lv : List (Nat × Value)} {st : List Value}
theorem gq_xrVi {rt : FieldType} {r : Int32} (hC : Gc p R s m args meth c D T A nL cc own Ts ret k n z) (is : List Nat) (wsN : va_W) (As : List Value) (rest : List Value) (hM : Xi l y wy rm D T z (.ref b :: As) WSc (.inr r) WSc' kc nc) (hg : GoodIn Ts (wsV own ix C y wy)) (hw : wy = Cond.code y bytes maxL (some rt) :: ws') (hrm : rm.cells = kc ∧ rm.slots = nc) (hy : y.cls = C ∧ y.cls ≠ "java/lang/invoke/MethodHandle" ∧ y.cls ≠ "java/lang/invoke/VarHandle" ∧ (parseMethodDescriptor y.desc).map (fun d => d.parameters.length) = some nA) (hkc : k + kc ≤ R.cells ∧ n + nc ≤ R.slots) (hR : rm.frames + 1 ≤ R.frames ∧ 8 + (maxL + 11) + rm.locals ≤ R.locals) (hcm : is.map (fun i => ws[i]?) = WSc.map some) (hnd : va_nd is = true) (ha : WSc'.map (fun q => q.1) = WSc.map (fun q => q.1)) (hrc : gq_cl[ci]? = some q) (hq : q.1 = C) (hrv : WSc[q0]? = some (b, .inr (ci, fs))) (hst : (rest.map fun v => v.category).sum ≤ 8) (hn : As.length = nA) (hd : decode cc pc = .ok (.invokevirtual ix, 3)) (hs0 : st = As.reverse ++ .ref b :: rest) (hnew : gq_put ws is WSc' = wsN) (kk : Gx p l e R s m args below meth c D A nL Q (k + kc) (n + nc) (pc + 3) lv (.int r :: rest) wsN) : Gx p l e R s m args below meth c D A nL Q k n pc lv st ws := by
  subst hs0; subst hnew; subst hq
  intro H locs ls hP hD hS hl
  have hpre := gq_pre (As := .ref b :: As) hC hP hD hS hcm hnd
  have hF := va_free (wc := WSc) hD hS hC.2.2.2.2.2.2.1 is hcm
  have hPc : va_P D gq_cl WSc H := hP.sub is (gq_fm hcm)
  refine vx_calli (vx_runV (As := As) (rest := rest) ⟨hC.1, hC.2.1, hC.2.2.1, hC.2.2.2.1, hC.2.2.2.2.1⟩ (hM H.size) (cwV nA hC.2.2.2.2.1 hg hw hrm.1 hrm.2 hy hR) ⟨gq_blind, va_recv hC.2.2.2.2.2.1.1 hPc hrc hrv, hpre⟩ rfl hn hl.1 rfl (lv_room hst) hd hkc) hS (fun q _ h => hF q h) hF (fun q _ h => hF q h) (fun E ce q9 u t H1 locs1 ht hvm hpx hB hz1 hk1 hS1 hce hcv hcl => ?_) (fun r' u t H1 locs1 ht hvm hw2 hB hz1 hk1 hS1 => ?_)
  · cases hpx
  · cases hw2
    rw [ht] at hB
    obtain ⟨hP2, hD2⟩ := gq_join hP hD is hcm ha hk1 hB
    exact kk H1 locs1 ls hP2 hD2 hS1 hl
theorem gq_xxVi {rt : FieldType} {code : Nat} {α : Type} {x : Nat ⊕ α} {Qc : Array Value → State → Outcome → State → Prop} (hC : Gc p R s m args meth c D T A nL cc own Ts ret k n z) (is : List Nat) (wsN : va_W) (As : List Value) (rest : List Value) (hM : Xi l y wy rm D T z (.ref b :: As) WSc (.inl code) WSc' kc nc) (hg : GoodIn Ts (wsV own ix C y wy)) (hw : wy = Cond.code y bytes maxL (some rt) :: ws') (hrm : rm.cells = kc ∧ rm.slots = nc) (hy : y.cls = C ∧ y.cls ≠ "java/lang/invoke/MethodHandle" ∧ y.cls ≠ "java/lang/invoke/VarHandle" ∧ (parseMethodDescriptor y.desc).map (fun d => d.parameters.length) = some nA) (hkc : k + kc ≤ R.cells ∧ n + nc ≤ R.slots) (hR : rm.frames + 1 ≤ R.frames ∧ 8 + (maxL + 11) + rm.locals ≤ R.locals) (hcm : is.map (fun i => ws[i]?) = WSc.map some) (hnd : va_nd is = true) (ha : WSc'.map (fun q => q.1) = WSc.map (fun q => q.1)) (hrc : gq_cl[ci]? = some q) (hq : q.1 = C) (hrv : WSc[q0]? = some (b, .inr (ci, fs))) (hst : (rest.map fun v => v.category).sum ≤ 8) (hn : As.length = nA) (hd : decode cc pc = .ok (.invokevirtual ix, 3)) (hs0 : st = As.reverse ++ .ref b :: rest) (hnew : gq_put ws is WSc' = wsN) (hex : ∀ x ∈ c.exceptionTable.toList, False) (hx : x = .inl code) (hmc : k + kc ≤ mc ∧ n + nc ≤ ms) : Gx p l e R s m args below meth c D A nL (vx_MQ below Qc (gq_XC D A x wsN) args s mc ms A) k n pc lv st ws := by
  subst hs0; subst hnew; subst hq
  intro H locs ls hP hD hS hl
  have hpre := gq_pre (As := .ref b :: As) hC hP hD hS hcm hnd
  have hF := va_free (wc := WSc) hD hS hC.2.2.2.2.2.2.1 is hcm
  have hPc : va_P D gq_cl WSc H := hP.sub is (gq_fm hcm)
  refine vx_calli (vx_runV (As := As) (rest := rest) ⟨hC.1, hC.2.1, hC.2.2.1, hC.2.2.2.1, hC.2.2.2.2.1⟩ (hM H.size) (cwV nA hC.2.2.2.2.1 hg hw hrm.1 hrm.2 hy hR) ⟨gq_blind, va_recv hC.2.2.2.2.2.1.1 hPc hrc hrv, hpre⟩ rfl hn hl.1 rfl (lv_room hst) hd hkc) hS (fun q _ h => hF q h) hF (fun q _ h => hF q h) (fun E ce q9 u t H1 locs1 ht hvm hpx hB hz1 hk1 hS1 hce hcv hcl => ?_) (fun r' u t H1 locs1 ht hvm hw2 hB hz1 hk1 hS1 => ?_)
  · cases hpx
    obtain ⟨hE, hB⟩ := hB
    rw [ht] at hB
    obtain ⟨hP2, hD2⟩ := gq_join hP hD is hcm ha hk1 hB
    refine vx_out (E := E) (fun x9 h9 => (hex x9 h9).elim) hC.2.2.2.2.2.2.2.2.2.1 hce hcv hcl (fun t9 ht9 _ => ⟨_, hx, ⟨hE, by rw [ht9]; exact hP2⟩, hS1.F ht9⟩) hS1.2.2 hmc.1 hmc.2
  · cases hw2
theorem gq_xrVl {r : Int64} (hC : Gc p R s m args meth c D T A nL cc own Ts ret k n z) (is : List Nat) (wsN : va_W) (As : List Value) (rest : List Value) (hM : Xl l y wy rm D T z (.ref b :: As) WSc (.inr r) WSc' kc nc) (hg : GoodIn Ts (wsV own ix C y wy)) (hw : wy = Cond.code y bytes maxL (some .long) :: ws') (hrm : rm.cells = kc ∧ rm.slots = nc) (hy : y.cls = C ∧ y.cls ≠ "java/lang/invoke/MethodHandle" ∧ y.cls ≠ "java/lang/invoke/VarHandle" ∧ (parseMethodDescriptor y.desc).map (fun d => d.parameters.length) = some nA) (hkc : k + kc ≤ R.cells ∧ n + nc ≤ R.slots) (hR : rm.frames + 1 ≤ R.frames ∧ 8 + (maxL + 11) + rm.locals ≤ R.locals) (hcm : is.map (fun i => ws[i]?) = WSc.map some) (hnd : va_nd is = true) (ha : WSc'.map (fun q => q.1) = WSc.map (fun q => q.1)) (hrc : gq_cl[ci]? = some q) (hq : q.1 = C) (hrv : WSc[q0]? = some (b, .inr (ci, fs))) (hst : (rest.map fun v => v.category).sum ≤ 8) (hn : As.length = nA) (hd : decode cc pc = .ok (.invokevirtual ix, 3)) (hs0 : st = As.reverse ++ .ref b :: rest) (hnew : gq_put ws is WSc' = wsN) (kk : Gx p l e R s m args below meth c D A nL Q (k + kc) (n + nc) (pc + 3) lv (.long r :: rest) wsN) : Gx p l e R s m args below meth c D A nL Q k n pc lv st ws := by
  subst hs0; subst hnew; subst hq
  intro H locs ls hP hD hS hl
  have hpre := gq_pre (As := .ref b :: As) hC hP hD hS hcm hnd
  have hF := va_free (wc := WSc) hD hS hC.2.2.2.2.2.2.1 is hcm
  have hPc : va_P D gq_cl WSc H := hP.sub is (gq_fm hcm)
  refine vx_calll (vx_runV (As := As) (rest := rest) ⟨hC.1, hC.2.1, hC.2.2.1, hC.2.2.2.1, hC.2.2.2.2.1⟩ (hM H.size) (cwV nA hC.2.2.2.2.1 hg hw hrm.1 hrm.2 hy hR) ⟨gq_blind, va_recv hC.2.2.2.2.2.1.1 hPc hrc hrv, hpre⟩ rfl hn hl.1 rfl (lv_room hst) hd hkc) hS (fun q _ h => hF q h) hF (fun q _ h => hF q h) (fun E ce q9 u t H1 locs1 ht hvm hpx hB hz1 hk1 hS1 hce hcv hcl => ?_) (fun r' u t H1 locs1 ht hvm hw2 hB hz1 hk1 hS1 => ?_)
  · cases hpx
  · cases hw2
    rw [ht] at hB
    obtain ⟨hP2, hD2⟩ := gq_join hP hD is hcm ha hk1 hB
    exact kk H1 locs1 ls hP2 hD2 hS1 hl
theorem gq_xxVl {code : Nat} {α : Type} {x : Nat ⊕ α} {Qc : Array Value → State → Outcome → State → Prop} (hC : Gc p R s m args meth c D T A nL cc own Ts ret k n z) (is : List Nat) (wsN : va_W) (As : List Value) (rest : List Value) (hM : Xl l y wy rm D T z (.ref b :: As) WSc (.inl code) WSc' kc nc) (hg : GoodIn Ts (wsV own ix C y wy)) (hw : wy = Cond.code y bytes maxL (some .long) :: ws') (hrm : rm.cells = kc ∧ rm.slots = nc) (hy : y.cls = C ∧ y.cls ≠ "java/lang/invoke/MethodHandle" ∧ y.cls ≠ "java/lang/invoke/VarHandle" ∧ (parseMethodDescriptor y.desc).map (fun d => d.parameters.length) = some nA) (hkc : k + kc ≤ R.cells ∧ n + nc ≤ R.slots) (hR : rm.frames + 1 ≤ R.frames ∧ 8 + (maxL + 11) + rm.locals ≤ R.locals) (hcm : is.map (fun i => ws[i]?) = WSc.map some) (hnd : va_nd is = true) (ha : WSc'.map (fun q => q.1) = WSc.map (fun q => q.1)) (hrc : gq_cl[ci]? = some q) (hq : q.1 = C) (hrv : WSc[q0]? = some (b, .inr (ci, fs))) (hst : (rest.map fun v => v.category).sum ≤ 8) (hn : As.length = nA) (hd : decode cc pc = .ok (.invokevirtual ix, 3)) (hs0 : st = As.reverse ++ .ref b :: rest) (hnew : gq_put ws is WSc' = wsN) (hex : ∀ x ∈ c.exceptionTable.toList, False) (hx : x = .inl code) (hmc : k + kc ≤ mc ∧ n + nc ≤ ms) : Gx p l e R s m args below meth c D A nL (vx_MQ below Qc (gq_XC D A x wsN) args s mc ms A) k n pc lv st ws := by
  subst hs0; subst hnew; subst hq
  intro H locs ls hP hD hS hl
  have hpre := gq_pre (As := .ref b :: As) hC hP hD hS hcm hnd
  have hF := va_free (wc := WSc) hD hS hC.2.2.2.2.2.2.1 is hcm
  have hPc : va_P D gq_cl WSc H := hP.sub is (gq_fm hcm)
  refine vx_calll (vx_runV (As := As) (rest := rest) ⟨hC.1, hC.2.1, hC.2.2.1, hC.2.2.2.1, hC.2.2.2.2.1⟩ (hM H.size) (cwV nA hC.2.2.2.2.1 hg hw hrm.1 hrm.2 hy hR) ⟨gq_blind, va_recv hC.2.2.2.2.2.1.1 hPc hrc hrv, hpre⟩ rfl hn hl.1 rfl (lv_room hst) hd hkc) hS (fun q _ h => hF q h) hF (fun q _ h => hF q h) (fun E ce q9 u t H1 locs1 ht hvm hpx hB hz1 hk1 hS1 hce hcv hcl => ?_) (fun r' u t H1 locs1 ht hvm hw2 hB hz1 hk1 hS1 => ?_)
  · cases hpx
    obtain ⟨hE, hB⟩ := hB
    rw [ht] at hB
    obtain ⟨hP2, hD2⟩ := gq_join hP hD is hcm ha hk1 hB
    refine vx_out (E := E) (fun x9 h9 => (hex x9 h9).elim) hC.2.2.2.2.2.2.2.2.2.1 hce hcv hcl (fun t9 ht9 _ => ⟨_, hx, ⟨hE, by rw [ht9]; exact hP2⟩, hS1.F ht9⟩) hS1.2.2 hmc.1 hmc.2
  · cases hw2
theorem gq_xrVv {r : Unit} (hC : Gc p R s m args meth c D T A nL cc own Ts ret k n z) (is : List Nat) (wsN : va_W) (As : List Value) (rest : List Value) (hM : Xv l y wy rm D T z (.ref b :: As) WSc (.inr r) WSc' kc nc) (hg : GoodIn Ts (wsV own ix C y wy)) (hw : wy = Cond.code y bytes maxL none :: ws') (hrm : rm.cells = kc ∧ rm.slots = nc) (hy : y.cls = C ∧ y.cls ≠ "java/lang/invoke/MethodHandle" ∧ y.cls ≠ "java/lang/invoke/VarHandle" ∧ (parseMethodDescriptor y.desc).map (fun d => d.parameters.length) = some nA) (hkc : k + kc ≤ R.cells ∧ n + nc ≤ R.slots) (hR : rm.frames + 1 ≤ R.frames ∧ 8 + (maxL + 11) + rm.locals ≤ R.locals) (hcm : is.map (fun i => ws[i]?) = WSc.map some) (hnd : va_nd is = true) (ha : WSc'.map (fun q => q.1) = WSc.map (fun q => q.1)) (hrc : gq_cl[ci]? = some q) (hq : q.1 = C) (hrv : WSc[q0]? = some (b, .inr (ci, fs))) (hst : (rest.map fun v => v.category).sum ≤ 8) (hn : As.length = nA) (hd : decode cc pc = .ok (.invokevirtual ix, 3)) (hs0 : st = As.reverse ++ .ref b :: rest) (hnew : gq_put ws is WSc' = wsN) (kk : Gx p l e R s m args below meth c D A nL Q (k + kc) (n + nc) (pc + 3) lv rest wsN) : Gx p l e R s m args below meth c D A nL Q k n pc lv st ws := by
  subst hs0; subst hnew; subst hq
  intro H locs ls hP hD hS hl
  have hpre := gq_pre (As := .ref b :: As) hC hP hD hS hcm hnd
  have hF := va_free (wc := WSc) hD hS hC.2.2.2.2.2.2.1 is hcm
  have hPc : va_P D gq_cl WSc H := hP.sub is (gq_fm hcm)
  refine vx_callv (vx_runV (As := As) (rest := rest) ⟨hC.1, hC.2.1, hC.2.2.1, hC.2.2.2.1, hC.2.2.2.2.1⟩ (hM H.size) (cwV nA hC.2.2.2.2.1 hg hw hrm.1 hrm.2 hy hR) ⟨gq_blind, va_recv hC.2.2.2.2.2.1.1 hPc hrc hrv, hpre⟩ rfl hn hl.1 rfl (lv_room hst) hd hkc) hS (fun q _ h => hF q h) hF (fun q _ h => hF q h) (fun E ce q9 u t H1 locs1 ht hvm hpx hB hz1 hk1 hS1 hce hcv hcl => ?_) (fun u t H1 locs1 ht hvm hw2 hB hz1 hk1 hS1 => ?_)
  · cases hpx
  · cases hw2
    rw [ht] at hB
    obtain ⟨hP2, hD2⟩ := gq_join hP hD is hcm ha hk1 hB
    exact kk H1 locs1 ls hP2 hD2 hS1 hl
theorem gq_xxVv {code : Nat} {α : Type} {x : Nat ⊕ α} {Qc : Array Value → State → Outcome → State → Prop} (hC : Gc p R s m args meth c D T A nL cc own Ts ret k n z) (is : List Nat) (wsN : va_W) (As : List Value) (rest : List Value) (hM : Xv l y wy rm D T z (.ref b :: As) WSc (.inl code) WSc' kc nc) (hg : GoodIn Ts (wsV own ix C y wy)) (hw : wy = Cond.code y bytes maxL none :: ws') (hrm : rm.cells = kc ∧ rm.slots = nc) (hy : y.cls = C ∧ y.cls ≠ "java/lang/invoke/MethodHandle" ∧ y.cls ≠ "java/lang/invoke/VarHandle" ∧ (parseMethodDescriptor y.desc).map (fun d => d.parameters.length) = some nA) (hkc : k + kc ≤ R.cells ∧ n + nc ≤ R.slots) (hR : rm.frames + 1 ≤ R.frames ∧ 8 + (maxL + 11) + rm.locals ≤ R.locals) (hcm : is.map (fun i => ws[i]?) = WSc.map some) (hnd : va_nd is = true) (ha : WSc'.map (fun q => q.1) = WSc.map (fun q => q.1)) (hrc : gq_cl[ci]? = some q) (hq : q.1 = C) (hrv : WSc[q0]? = some (b, .inr (ci, fs))) (hst : (rest.map fun v => v.category).sum ≤ 8) (hn : As.length = nA) (hd : decode cc pc = .ok (.invokevirtual ix, 3)) (hs0 : st = As.reverse ++ .ref b :: rest) (hnew : gq_put ws is WSc' = wsN) (hex : ∀ x ∈ c.exceptionTable.toList, False) (hx : x = .inl code) (hmc : k + kc ≤ mc ∧ n + nc ≤ ms) : Gx p l e R s m args below meth c D A nL (vx_MQ below Qc (gq_XC D A x wsN) args s mc ms A) k n pc lv st ws := by
  subst hs0; subst hnew; subst hq
  intro H locs ls hP hD hS hl
  have hpre := gq_pre (As := .ref b :: As) hC hP hD hS hcm hnd
  have hF := va_free (wc := WSc) hD hS hC.2.2.2.2.2.2.1 is hcm
  have hPc : va_P D gq_cl WSc H := hP.sub is (gq_fm hcm)
  refine vx_callv (vx_runV (As := As) (rest := rest) ⟨hC.1, hC.2.1, hC.2.2.1, hC.2.2.2.1, hC.2.2.2.2.1⟩ (hM H.size) (cwV nA hC.2.2.2.2.1 hg hw hrm.1 hrm.2 hy hR) ⟨gq_blind, va_recv hC.2.2.2.2.2.1.1 hPc hrc hrv, hpre⟩ rfl hn hl.1 rfl (lv_room hst) hd hkc) hS (fun q _ h => hF q h) hF (fun q _ h => hF q h) (fun E ce q9 u t H1 locs1 ht hvm hpx hB hz1 hk1 hS1 hce hcv hcl => ?_) (fun u t H1 locs1 ht hvm hw2 hB hz1 hk1 hS1 => ?_)
  · cases hpx
    obtain ⟨hE, hB⟩ := hB
    rw [ht] at hB
    obtain ⟨hP2, hD2⟩ := gq_join hP hD is hcm ha hk1 hB
    refine vx_out (E := E) (fun x9 h9 => (hex x9 h9).elim) hC.2.2.2.2.2.2.2.2.2.1 hce hcv hcl (fun t9 ht9 _ => ⟨_, hx, ⟨hE, by rw [ht9]; exact hP2⟩, hS1.F ht9⟩) hS1.2.2 hmc.1 hmc.2
  · cases hw2
end CalleeX
end GXR
def xo {α β : Type} (x : Nat ⊕ α) (f : Nat → Option β) (g : α → Option β) : Option β := Sum.elim f g x
theorem xo_l {α β : Type} {c : Nat} {f : Nat → Option β} {g : α → Option β} {o : β} (h : xo (.inl c) f g = some o) : f c = some o := h
theorem xo_r {α β : Type} {r : α} {f : Nat → Option β} {g : α → Option β} {o : β} (h : xo (.inr r) f g = some o) : g r = some o := h
theorem hat_1 : ∀ w ∈ vx_atS RX10 70 (gq_en 1) gq_nm, w ∈ gq_xw := fun _ h => List.mem_append_left _ (List.mem_append_left _ (List.mem_append_left _ h))
theorem hat_2 : ∀ w ∈ vx_atS RX10 85 (gq_en 2) gq_nm, w ∈ gq_xw := fun _ h => List.mem_append_left _ (List.mem_append_left _ (List.mem_append_right _ h))
theorem hat_3 : ∀ w ∈ vx_atS RX10 181 (gq_en 3) gq_nm, w ∈ gq_xw := fun _ h => List.mem_append_left _ (List.mem_append_right _ h)
theorem hat_4 : ∀ w ∈ vx_atS RX10 278 (gq_en 4) gq_nm, w ∈ gq_xw := fun _ h => List.mem_append_right _ h
