/-! ===== a walk in one judgement: locals as a list, the world as a list of cells ===== -/
abbrev gq_cl : List vw_C := [(RX0, TX0, 15), (RX1, TX1, 3), (RX2, TX2, 6), (RX3, TX3, 2), (RX4, TX4, 6), (RX5, TX5, 7), (RX6, TX6, 4), (RX7, TX7, 4), (RX8, TX8, 2), (RX9, TX9, 8), (RX10, TX10, 8), (RX11, TX11, 27)]
/-- the array classes: int, long, boolean, Show -/
abbrev gq_ty (cI cJ cZ cO : ClassId) : List (ClassId × FieldType) := [(cI, .int), (cJ, .long), (cZ, .boolean), (cO, .object RX6)]
/-- what the tables say of the classes, and of the private static method that two nest mates call -/
def gq_K (D : va_G) (T : List (ClassId × FieldType)) (U : State) : Prop := va_K D gq_cl T U ∧ va_Nw (.methodLinkNest RX0 102 yX10_percentAlike RX10) U ∧ va_Nw (.methodLinkNest RX8 57 yX10_percentAlike RX10) U ∧ va_Nw (.fieldLinkNest RX5 126 RX10 "LOWEST_SETTINGS" "[I" RX10) U ∧ va_Nw (.fieldLinkNest RX5 129 RX10 "HIGHEST_SETTINGS" "[I" RX10) U ∧ va_Nw (.fieldLinkNest RX6 32 RX10 "FIRST_SETTINGS" "[I" RX10) U
theorem gq_K.warm {D : va_G} {T : List (ClassId × FieldType)} {s U : State} (hW : s.WarmedH U.vm) (h : gq_K D T s) : gq_K D T U := ⟨va_K.moved hW.alike h.1, va_Nw.warmM hW h.2.1, va_Nw.warmM hW h.2.2.1, va_Nw.warmF hW h.2.2.2.1, va_Nw.warmF hW h.2.2.2.2.1, va_Nw.warmF hW h.2.2.2.2.2⟩
theorem gq_K.calling {D : va_G} {T : List (ClassId × FieldType)} {U : State} {g : JFrame} {mk : MethodId} {a : Array Value} (h : gq_K D T U) : gq_K D T (U.calling g mk a) := ⟨va_K.moved (u := U) (U := U.calling g mk a) (Vm.Alike.refl U.vm) h.1, va_Nw.same rfl (u := U) rfl h.2.1, va_Nw.same rfl (u := U) rfl h.2.2.1, va_Nw.same rfl (u := U) rfl h.2.2.2.1, va_Nw.same rfl (u := U) rfl h.2.2.2.2.1, va_Nw.same rfl (u := U) rfl h.2.2.2.2.2⟩
/-- the three rows of numbers that the class keeps for all: where they lie, what they hold -/
def gq_low : Nat → Int32 := fun j => if j < 3 then 1 else 0
def gq_high : Nat → Int32 := fun j => if j = 2 then 5 else if j = 3 then 100 else if j = 4 then 99 else 9999
def gq_first : Nat → Int32 := fun j => if j = 0 then 60 else if j = 1 then 600 else if j = 2 then 2 else if j = 3 then 40 else if j = 4 then 5 else 30
def gq_S1 (nm : String) (t : Nat) (f : Nat → Int32) (A : Nat → Prop) (U : State) (H : Heap) : Prop := va_Z RX10 nm "[I" (.ref t) A U H ∧ va_X t 6 f U H ∧ t < H.size ∧ ¬ A t
theorem gq_S1.to {nm : String} {t : Nat} {f : Nat → Int32} {A B : Nat → Prop} {u U : State} {H H1 : Heap} (h : gq_S1 nm t f A u H) (hvm : u.vm.Alike U.vm) (hq : ∀ a : Nat, a < H.size → ¬ A a → H1[a]? = H[a]?) (hz : H.size ≤ H1.size) (hAB : ∀ q, B q → A q) : gq_S1 nm t f B U H1 :=
  ⟨(va_Z.moved hvm (h.1.kept hq)).narrow hAB, va_X.moved hvm (h.2.1.kept (hq t h.2.2.1 h.2.2.2)), Nat.lt_of_lt_of_le h.2.2.1 hz, fun q => h.2.2.2 (hAB t q)⟩
/-- the written texts of the exceptions -/
def gq_msgs : List (Nat × String) := [(68, "the text buffer is full"), (83, "the buffer has no such length"), (141, "there is no such number of the show"), (175, "there is no such number of a segment"), (179, "the segment has no such word"), (193, "the last segment is below the first one"), (206, "the segment has 8 words"), (251, "there is no such number of a chapter"), (276, "there is no such division"), (285, "no price gives so many chapters"), (300, "a title has no such word"), (305, "there are 5 slots"), (325, "there is no such number of a slot"), (352, "no version is kept"), (374, "the written text has no such byte"), (382, "there is no change to undo"), (407, "there is no such setting"), (409, "there is no such segment"), (414, "there is no such boundary"), (416, "there is no such word"), (418, "there is no such slot"), (420, "there is no best division"), (422, "there is no such chapter"), (424, "a number is out of its range"), (426, "a cut is at no boundary")]
/-- the bytes of the three quoted words of the reference: "seg", "slot", "set" -/
def gq_tl : List Nat := [3, 4, 3]
def gq_tb : List (List Int32) := [[115, 101, 103], [115, 108, 111, 116], [115, 101, 116]]
/-- what the four exceptions' making wants of the tables -/
def gq_nm : List String := ["java/lang/RuntimeException", "java/lang/Exception"]
def gq_xw : List Cond := vx_atS RX10 70 "java/lang/IllegalStateException" gq_nm ++ vx_atS RX10 85 "java/lang/IllegalArgumentException" gq_nm ++ vx_atS RX10 181 "java/lang/IndexOutOfBoundsException" gq_nm ++ vx_atS RX10 278 "java/util/NoSuchElementException" gq_nm
def gq_dc : Cond → Bool
  | .declares _ => true
  | .castable _ _ => true
  | _ => false
def gq_ok (w : Cond) : Bool := w.onTables && (w.keeps || gq_dc w)
set_option maxRecDepth 20000 in
theorem gq_xw_good : ∀ w ∈ gq_xw, gq_ok w = true := List.all_eq_true.mp (by decide +kernel)
theorem gq_ok_on {w : Cond} (h : gq_ok w = true) : w.onTables = true := (Bool.and_eq_true_iff.mp h).1
theorem gq_ok_warm {w : Cond} {s U : State} (hW : s.WarmedH U.vm) (h : gq_ok w = true) (hb : w.before #[] s = true) : w.before #[] U = true := by
  obtain ⟨h1, h2⟩ := Bool.and_eq_true_iff.mp h
  rcases (Bool.or_eq_true_iff.mp h2) with h3 | h3
  · exact word_at hW (Or.inl (Bool.and_eq_true_iff.mpr ⟨h1, h3⟩)) hb
  · cases w with
    | declares x => exact va_Nw.warmD hW hb
    | castable C T => exact va_Nw.warmC hW hb
    | _ => exact absurd h3 (by simp [gq_dc])
def gq_Zt (z : Nat → Nat) (A : Nat → Prop) (U : State) (H : Heap) : Prop := vk_S 3 gq_tl gq_tb (fun i => z (3 + i)) (fun i => z (6 + i)) A U H ∧ va_Z "java/lang/String" "COMPACT_STRINGS" "Z" (.int 1) A U H ∧ va_Zq "jdk/internal/util/Preconditions" "SIOOBE_FORMATTER" "Ljava/util/function/BiFunction;" A U H
/-- what an exception is not, at the law's catches -/
def gq_nc : List (String × String) := [("java/lang/IllegalArgumentException", "java/lang/IndexOutOfBoundsException"), ("java/lang/IllegalStateException", "java/lang/IndexOutOfBoundsException"), ("java/lang/IndexOutOfBoundsException", "java/util/NoSuchElementException"), ("java/lang/IllegalArgumentException", "java/util/NoSuchElementException"), ("java/util/NoSuchElementException", "java/lang/IndexOutOfBoundsException"), ("java/util/NoSuchElementException", "java/lang/IllegalArgumentException"), ("java/lang/IllegalStateException", "java/lang/IllegalArgumentException"), ("java/lang/IllegalArgumentException", "java/lang/IllegalStateException"), ("java/lang/IllegalStateException", "java/util/NoSuchElementException"), ("java/util/NoSuchElementException", "java/lang/IllegalStateException"), ("java/lang/IndexOutOfBoundsException", "java/lang/IllegalArgumentException"), ("java/lang/IndexOutOfBoundsException", "java/lang/IllegalStateException")]
def gq_Zr (z : Nat → Nat) (U : State) : Prop := (∀ w ∈ gq_xw, w.before #[] U = true) ∧ (∀ q ∈ gq_msgs, ∃ a : Nat, vk_R RX10 q.1 q.2 a U) ∧ vk_R RX11 160 "seg" (z 3) U ∧ vk_R RX11 181 "slot" (z 4) U ∧ vk_R RX11 187 "set" (z 5) U ∧ ∀ q ∈ gq_nc, va_Nc q.1 q.2 U
def gq_Zx (A : Nat → Prop) (U : State) (H : Heap) : Prop := vx_Zq Bundle.tN "UNASSIGNED_STACK" Bundle.steD A U H ∧ vx_Zq Bundle.tN "SUPPRESSED_SENTINEL" Bundle.listD A U H
/-- what stays all the while: the three rows, what exceptions want, texts -/
def gq_Z (z : Nat → Nat) (A : Nat → Prop) (U : State) (H : Heap) : Prop := gq_S1 "LOWEST_SETTINGS" (z 0) gq_low A U H ∧ gq_S1 "HIGHEST_SETTINGS" (z 1) gq_high A U H ∧ gq_S1 "FIRST_SETTINGS" (z 2) gq_first A U H ∧ gq_Zx A U H ∧ gq_Zr z U ∧ gq_Zt z A U H
theorem gq_Z.to {z : Nat → Nat} {A B : Nat → Prop} {u U : State} {H H1 : Heap} (h : gq_Z z A u H) (hW : u.WarmedH U.vm) (hq : ∀ a : Nat, a < H.size → ¬ A a → H1[a]? = H[a]?) (hz : H.size ≤ H1.size) (hAB : ∀ q, B q → A q) : gq_Z z B U H1 :=
  ⟨h.1.to hW.alike hq hz hAB, h.2.1.to hW.alike hq hz hAB, h.2.2.1.to hW.alike hq hz hAB,
   ⟨vx_Zq.narrow (vx_Zq.moved hW.alike (vx_Zq.kept h.2.2.2.1.1 hq)) hAB, vx_Zq.narrow (vx_Zq.moved hW.alike (vx_Zq.kept h.2.2.2.1.2 hq)) hAB⟩,
   ⟨fun w hm => gq_ok_warm hW (gq_xw_good w hm) (h.2.2.2.2.1.1 w hm), fun q hm => by obtain ⟨a, ha⟩ := h.2.2.2.2.1.2.1 q hm; exact ⟨a, ha.warm hW⟩, h.2.2.2.2.1.2.2.1.warm hW, h.2.2.2.2.1.2.2.2.1.warm hW, h.2.2.2.2.1.2.2.2.2.1.warm hW, fun q hm => (h.2.2.2.2.1.2.2.2.2.2 q hm).moved hW.alike⟩,
   ⟨(vk_S.moved hW.alike (h.2.2.2.2.2.1.kept hq)).narrow hAB, (va_Z.moved hW.alike (h.2.2.2.2.2.2.1.kept hq)).narrow hAB, va_Zq.narrow (va_Zq.moved hW.alike (va_Zq.kept h.2.2.2.2.2.2.2 hq)) hAB⟩⟩
/-- cells that come back, at their places -/
def gq_put : va_W → List Nat → va_W → va_W
  | ws, i :: is, q :: qs => gq_put (ws.set i q) is qs
  | ws, [], _ => ws
  | ws, _ :: _, [] => ws
theorem gq_put_get : ∀ (is : List Nat) (new ws : va_W) (j : Nat) (q : Nat × va_E), is.length = new.length → (gq_put ws is new)[j]? = some q → (∃ t : Nat, is[t]? = some j ∧ new[t]? = some q) ∨ (j ∉ is ∧ ws[j]? = some q) := by
  intro is
  induction is with
  | nil =>
    intro new ws j q hl h
    exact Or.inr ⟨List.not_mem_nil, by simpa [gq_put] using h⟩
  | cons i is ih =>
    intro new ws j q hl h
    cases new with
    | nil => simp at hl
    | cons q0 qs =>
      have hl' : is.length = qs.length := by simpa using hl
      rcases ih qs (ws.set i q0) j q hl' h with ⟨t, h1, h2⟩ | ⟨h1, h2⟩
      · exact Or.inl ⟨t + 1, by simpa using h1, by simpa using h2⟩
      · by_cases hij : i = j
        · subst hij
          rw [List.getElem?_set] at h2
          by_cases hlt : i < ws.length
          · simp [hlt] at h2
            exact Or.inl ⟨0, by simp, by simp [h2]⟩
          · simp [hlt] at h2
        · rw [List.getElem?_set_ne hij] at h2
          exact Or.inr ⟨by simp [h1, Ne.symm hij], h2⟩
theorem gq_join {A0 : Nat → Prop} {D : va_G} {cl : List vw_C} {ws wc w1 : va_W} {H H1 : Heap} (hP : va_P D cl ws H) (hD : va_D A0 ws) (is : List Nat) (hC : is.map (fun i => ws[i]?) = wc.map some) (ha : w1.map (fun q => q.1) = wc.map (fun q => q.1))
    (hk : ∀ q : Nat, q < H.size → ¬ va_A wc H.size q → H1[q]? = H[q]?) (hP1 : va_P D cl w1 H1) : va_P D cl (gq_put ws is w1) H1 ∧ va_D A0 (gq_put ws is w1) := by
  have hlc : is.length = wc.length := by have := congrArg List.length hC; simpa using this
  have hl1 : w1.length = wc.length := by have := congrArg List.length ha; simpa using this
  have hl : is.length = w1.length := by rw [hlc, hl1]
  have hat : ∀ (t : Nat) (i : Nat), is[t]? = some i → ∃ q, wc[t]? = some q ∧ ws[i]? = some q := by
    intro t i h
    have h1 := congrArg (fun L => L[t]?) hC
    simp only [List.getElem?_map, h, Option.map_some] at h1
    cases hw : wc[t]? with
    | none => rw [hw] at h1; simp at h1
    | some q => rw [hw] at h1; simp at h1; exact ⟨q, rfl, h1⟩
  have hadr : ∀ (t : Nat) (q : Nat × va_E), w1[t]? = some q → ∃ q' : Nat × va_E, wc[t]? = some q' ∧ q'.1 = q.1 := by
    intro t q h
    have h1 := congrArg (fun L => L[t]?) ha
    simp only [List.getElem?_map, h, Option.map_some] at h1
    cases hw : wc[t]? with
    | none => rw [hw] at h1; simp at h1
    | some q' => rw [hw] at h1; simp at h1; exact ⟨q', rfl, h1.symm⟩
  have hold : ∀ (j : Nat) (q : Nat × va_E), (gq_put ws is w1)[j]? = some q → ∃ q' : Nat × va_E, ws[j]? = some q' ∧ q'.1 = q.1 := by
    intro j q h
    rcases gq_put_get is w1 ws j q hl h with ⟨t, h1, h2⟩ | ⟨-, h2⟩
    · obtain ⟨qc, g1, g2⟩ := hat t j h1
      obtain ⟨q', g3, g4⟩ := hadr t q h2
      rw [g1] at g3; cases g3
      exact ⟨qc, g2, g4⟩
    · exact ⟨q, h2, rfl⟩
  refine ⟨fun j q h => ?_, fun i j x y hx hy hxy => ?_, fun j q h => ?_⟩
  · rcases gq_put_get is w1 ws j q hl h with ⟨t, h1, h2⟩ | ⟨h1, h2⟩
    · exact hP1 t q h2
    · have hat1 := hP j q h2
      refine hat1.kept (hk q.1 hat1.lt ?_)
      rintro (⟨t, ee, ht⟩ | hsz)
      · cases hi : is[t]? with
        | none =>
          have h5 := congrArg (fun L => L[t]?) hC
          simp only [List.getElem?_map, hi, ht, Option.map_none, Option.map_some] at h5
          cases h5
        | some i =>
          obtain ⟨qc, g1, g2⟩ := hat t i hi
          rw [ht] at g1; cases g1
          have hij := hD.1 i j _ _ g2 h2 rfl
          subst hij
          exact h1 (List.mem_of_getElem? hi)
      · exact absurd hat1.lt (Nat.not_lt.mpr hsz)
  · obtain ⟨x', g1, g2⟩ := hold i x hx
    obtain ⟨y', g3, g4⟩ := hold j y hy
    exact hD.1 i j x' y' g1 g3 (by rw [g2, g4, hxy])
  · obtain ⟨q', g1, g2⟩ := hold j q h
    rw [← g2]
    exact hD.2 j q' g1
section GQ
variable {p : Program} {l : Launch} {e : Env} {R : Room} {s : State} {m : MethodId} {args : Array Value} {below : List Frame} {meth : Method} {c : Code} {D : va_G} {T : List (ClassId × FieldType)} {z : Nat → Nat} {A : Nat → Prop} {nL : Nat} {Q : State → Prop} {k n : Nat}
variable {cc : ByteArray} {own : String} {Ts : List Cond} {ret : Option FieldType}
def Gx (p : Program) (l : Launch) (e : Env) (R : Room) (s : State) (m : MethodId) (args : Array Value) (below : List Frame) (meth : Method) (c : Code) (D : va_G) (A : Nat → Prop) (nL : Nat) (Q : State → Prop) (k n : Nat) (pc : Nat) (lv : List (Nat × Value)) (st : List Value) (ws : va_W) : Prop :=
  ∀ (H : Heap) (locs : List Loc) (ls : Array Slot), va_P D gq_cl ws H → va_D A ws → va_S A s.heap H locs → lv_has ls nL lv → W p l e R s m args below meth c H locs k n Q (F0 m pc ls st)
def Gc (p : Program) (R : Room) (s : State) (m : MethodId) (args : Array Value) (meth : Method) (c : Code) (D : va_G) (T : List (ClassId × FieldType)) (A : Nat → Prop) (nL : Nat) (cc : ByteArray) (own : String) (Ts : List Cond) (ret : Option FieldType) (k n : Nat) (z : Nat → Nat) : Prop :=
  p.tables.exec = Jvm.exec ∧ c.code = cc ∧ c.maxLocals = nL ∧ s.vm.findClass own = some m.cls ∧ (∀ w ∈ Ts, w.before args s = true) ∧ gq_K D T s ∧ (∀ q : Nat, s.heap.size ≤ q → A q) ∧ (k ≤ R.cells ∧ n ≤ R.slots) ∧ meth.sig.returnType = ret ∧ meth.locks = false ∧ gq_Z z A s s.heap
theorem gq_iconst (hC : Gc p R s m args meth c D T A nL cc own Ts ret k n z) {pc : Nat} {lv : List (Nat × Value)} {st : List Value} {ws : va_W} {z : Int} (v : Int32) (hd : decode cc pc = .ok (.iconst z, 1)) (hv : Int32.ofInt z = v) (kk : Gx p l e R s m args below meth c D A nL Q k n (pc + 1) lv (.int v :: st) ws) : Gx p l e R s m args below meth c D A nL Q k n pc lv st ws :=
  fun H locs ls hP hD hS hl => lv_iconst hC.1 hC.2.1 hd hv (kk H locs ls hP hD hS hl)
theorem gq_bipush (hC : Gc p R s m args meth c D T A nL cc own Ts ret k n z) {pc : Nat} {lv : List (Nat × Value)} {st : List Value} {ws : va_W} {z : Int} (v : Int32) (hd : decode cc pc = .ok (.bipush z, 2)) (hv : (Int8.ofInt z).toInt32 = v) (kk : Gx p l e R s m args below meth c D A nL Q k n (pc + 2) lv (.int v :: st) ws) : Gx p l e R s m args below meth c D A nL Q k n pc lv st ws :=
  fun H locs ls hP hD hS hl => lv_bipush hC.1 hC.2.1 hd hv (kk H locs ls hP hD hS hl)
theorem gq_sipush (hC : Gc p R s m args meth c D T A nL cc own Ts ret k n z) {pc : Nat} {lv : List (Nat × Value)} {st : List Value} {ws : va_W} {z : Int} (v : Int32) (hd : decode cc pc = .ok (.sipush z, 3)) (hv : (Int16.ofInt z).toInt32 = v) (kk : Gx p l e R s m args below meth c D A nL Q k n (pc + 3) lv (.int v :: st) ws) : Gx p l e R s m args below meth c D A nL Q k n pc lv st ws :=
  fun H locs ls hP hD hS hl => lv_sipush hC.1 hC.2.1 hd hv (kk H locs ls hP hD hS hl)
theorem gq_lconst (hC : Gc p R s m args meth c D T A nL cc own Ts ret k n z) {pc : Nat} {lv : List (Nat × Value)} {st : List Value} {ws : va_W} {z : Fin 2} (v : Int64) (hd : decode cc pc = .ok (.lconst z, 1)) (hv : Int64.ofNat (z : Nat) = v) (kk : Gx p l e R s m args below meth c D A nL Q k n (pc + 1) lv (.long v :: st) ws) : Gx p l e R s m args below meth c D A nL Q k n pc lv st ws :=
  fun H locs ls hP hD hS hl => lv_lconst hC.1 hC.2.1 hd hv (kk H locs ls hP hD hS hl)
theorem gq_ldc (hC : Gc p R s m args meth c D T A nL cc own Ts ret k n z) {pc : Nat} {lv : List (Nat × Value)} {st : List Value} {ws : va_W} {ix : Nat} (v : Int32) (hd : decode cc pc = .ok (.ldc ix, 2)) (hw : Jvm.Cond.constant own ix v ∈ Ts) (kk : Gx p l e R s m args below meth c D A nL Q k n (pc + 2) lv (.int v :: st) ws) : Gx p l e R s m args below meth c D A nL Q k n pc lv st ws :=
  fun H locs ls hP hD hS hl => lv_ldc hC.1 hC.2.1 hC.2.2.2.1 (hC.2.2.2.2.1 _ hw) hd (kk H locs ls hP hD hS hl)
theorem gq_ldcw (hC : Gc p R s m args meth c D T A nL cc own Ts ret k n z) {pc : Nat} {lv : List (Nat × Value)} {st : List Value} {ws : va_W} {ix : Nat} (v : Int32) (hd : decode cc pc = .ok (.ldc_w ix, 3)) (hw : Jvm.Cond.constant own ix v ∈ Ts) (kk : Gx p l e R s m args below meth c D A nL Q k n (pc + 3) lv (.int v :: st) ws) : Gx p l e R s m args below meth c D A nL Q k n pc lv st ws :=
  fun H locs ls hP hD hS hl => lv_ldcw hC.1 hC.2.1 hC.2.2.2.1 (hC.2.2.2.2.1 _ hw) hd (kk H locs ls hP hD hS hl)
theorem gq_ldc2 (hC : Gc p R s m args meth c D T A nL cc own Ts ret k n z) {pc : Nat} {lv : List (Nat × Value)} {st : List Value} {ws : va_W} {ix : Nat} (v : Int64) (hd : decode cc pc = .ok (.ldc2_w ix, 3)) (hw : Jvm.Cond.constantLong own ix v ∈ Ts) (kk : Gx p l e R s m args below meth c D A nL Q k n (pc + 3) lv (.long v :: st) ws) : Gx p l e R s m args below meth c D A nL Q k n pc lv st ws :=
  fun H locs ls hP hD hS hl => lv_ldc2 hC.1 hC.2.1 hC.2.2.2.1 (hC.2.2.2.2.1 _ hw) hd (kk H locs ls hP hD hS hl)
theorem gq_iload_n (hC : Gc p R s m args meth c D T A nL cc own Ts ret k n z) {pc : Nat} {lv : List (Nat × Value)} {st : List Value} {ws : va_W} {b : Fin 4} {i : Nat} {x : Int32} (q : Nat) (hd : decode cc pc = .ok (.iload_n b, 1)) (hi : (b : Nat) = i) (hq : lv[q]? = some (i, .int x)) (kk : Gx p l e R s m args below meth c D A nL Q k n (pc + 1) lv (.int x :: st) ws) : Gx p l e R s m args below meth c D A nL Q k n pc lv st ws :=
  fun H locs ls hP hD hS hl => lv_iload_n hC.1 hC.2.1 hd hi (lv_at hl q hq) (kk H locs ls hP hD hS hl)
theorem gq_iload (hC : Gc p R s m args meth c D T A nL cc own Ts ret k n z) {pc : Nat} {lv : List (Nat × Value)} {st : List Value} {ws : va_W} {i : Nat} {x : Int32} (q : Nat) (hd : decode cc pc = .ok (.iload i, 2)) (hq : lv[q]? = some (i, .int x)) (kk : Gx p l e R s m args below meth c D A nL Q k n (pc + 2) lv (.int x :: st) ws) : Gx p l e R s m args below meth c D A nL Q k n pc lv st ws :=
  fun H locs ls hP hD hS hl => lv_iload hC.1 hC.2.1 hd (lv_at hl q hq) (kk H locs ls hP hD hS hl)
theorem gq_lload_n (hC : Gc p R s m args meth c D T A nL cc own Ts ret k n z) {pc : Nat} {lv : List (Nat × Value)} {st : List Value} {ws : va_W} {b : Fin 4} {i : Nat} {x : Int64} (q : Nat) (hd : decode cc pc = .ok (.lload_n b, 1)) (hi : (b : Nat) = i) (hq : lv[q]? = some (i, .long x)) (kk : Gx p l e R s m args below meth c D A nL Q k n (pc + 1) lv (.long x :: st) ws) : Gx p l e R s m args below meth c D A nL Q k n pc lv st ws :=
  fun H locs ls hP hD hS hl => lv_lload_n hC.1 hC.2.1 hd hi (lv_at hl q hq) (kk H locs ls hP hD hS hl)
theorem gq_lload (hC : Gc p R s m args meth c D T A nL cc own Ts ret k n z) {pc : Nat} {lv : List (Nat × Value)} {st : List Value} {ws : va_W} {i : Nat} {x : Int64} (q : Nat) (hd : decode cc pc = .ok (.lload i, 2)) (hq : lv[q]? = some (i, .long x)) (kk : Gx p l e R s m args below meth c D A nL Q k n (pc + 2) lv (.long x :: st) ws) : Gx p l e R s m args below meth c D A nL Q k n pc lv st ws :=
  fun H locs ls hP hD hS hl => lv_lload hC.1 hC.2.1 hd (lv_at hl q hq) (kk H locs ls hP hD hS hl)
theorem gq_aload_n (hC : Gc p R s m args meth c D T A nL cc own Ts ret k n z) {pc : Nat} {lv : List (Nat × Value)} {st : List Value} {ws : va_W} {b : Fin 4} {i : Nat} {x : Nat} (q : Nat) (hd : decode cc pc = .ok (.aload_n b, 1)) (hi : (b : Nat) = i) (hq : lv[q]? = some (i, .ref x)) (kk : Gx p l e R s m args below meth c D A nL Q k n (pc + 1) lv (.ref x :: st) ws) : Gx p l e R s m args below meth c D A nL Q k n pc lv st ws :=
  fun H locs ls hP hD hS hl => lv_aload_n hC.1 hC.2.1 hd hi (lv_at hl q hq) (kk H locs ls hP hD hS hl)
theorem gq_aload (hC : Gc p R s m args meth c D T A nL cc own Ts ret k n z) {pc : Nat} {lv : List (Nat × Value)} {st : List Value} {ws : va_W} {i : Nat} {x : Nat} (q : Nat) (hd : decode cc pc = .ok (.aload i, 2)) (hq : lv[q]? = some (i, .ref x)) (kk : Gx p l e R s m args below meth c D A nL Q k n (pc + 2) lv (.ref x :: st) ws) : Gx p l e R s m args below meth c D A nL Q k n pc lv st ws :=
  fun H locs ls hP hD hS hl => lv_aload hC.1 hC.2.1 hd (lv_at hl q hq) (kk H locs ls hP hD hS hl)
theorem gq_istore_n (hC : Gc p R s m args meth c D T A nL cc own Ts ret k n z) {pc : Nat} {lv : List (Nat × Value)} {st : List Value} {ws : va_W} {b : Fin 4} {i : Nat} {x : Int32} (lv' : List (Nat × Value)) (hd : decode cc pc = .ok (.istore_n b, 1)) (hi : (b : Nat) = i) (hn : i < nL) (he : ((i, Value.int x) :: lv.filter (fun q => !(q.1 == i) && !(q.1 + 1 == i && q.2.category == 2))) = lv') (kk : Gx p l e R s m args below meth c D A nL Q k n (pc + 1) lv' st ws) : Gx p l e R s m args below meth c D A nL Q k n pc lv (.int x :: st) ws :=
  fun H locs ls hP hD hS hl => lv_istore_n hC.1 hC.2.1 hd hi hl hn he (fun ls' hl' => kk H locs ls' hP hD hS hl')
theorem gq_istore (hC : Gc p R s m args meth c D T A nL cc own Ts ret k n z) {pc : Nat} {lv : List (Nat × Value)} {st : List Value} {ws : va_W} {i : Nat} {x : Int32} (lv' : List (Nat × Value)) (hd : decode cc pc = .ok (.istore i, 2)) (hn : i < nL) (he : ((i, Value.int x) :: lv.filter (fun q => !(q.1 == i) && !(q.1 + 1 == i && q.2.category == 2))) = lv') (kk : Gx p l e R s m args below meth c D A nL Q k n (pc + 2) lv' st ws) : Gx p l e R s m args below meth c D A nL Q k n pc lv (.int x :: st) ws :=
  fun H locs ls hP hD hS hl => lv_istore hC.1 hC.2.1 hd hl hn he (fun ls' hl' => kk H locs ls' hP hD hS hl')
theorem gq_astore_n (hC : Gc p R s m args meth c D T A nL cc own Ts ret k n z) {pc : Nat} {lv : List (Nat × Value)} {st : List Value} {ws : va_W} {b : Fin 4} {i : Nat} {x : Nat} (lv' : List (Nat × Value)) (hd : decode cc pc = .ok (.astore_n b, 1)) (hi : (b : Nat) = i) (hn : i < nL) (he : ((i, Value.ref x) :: lv.filter (fun q => !(q.1 == i) && !(q.1 + 1 == i && q.2.category == 2))) = lv') (kk : Gx p l e R s m args below meth c D A nL Q k n (pc + 1) lv' st ws) : Gx p l e R s m args below meth c D A nL Q k n pc lv (.ref x :: st) ws :=
  fun H locs ls hP hD hS hl => lv_astore_n hC.1 hC.2.1 hd hi hl hn he (fun ls' hl' => kk H locs ls' hP hD hS hl')
theorem gq_astore (hC : Gc p R s m args meth c D T A nL cc own Ts ret k n z) {pc : Nat} {lv : List (Nat × Value)} {st : List Value} {ws : va_W} {i : Nat} {x : Nat} (lv' : List (Nat × Value)) (hd : decode cc pc = .ok (.astore i, 2)) (hn : i < nL) (he : ((i, Value.ref x) :: lv.filter (fun q => !(q.1 == i) && !(q.1 + 1 == i && q.2.category == 2))) = lv') (kk : Gx p l e R s m args below meth c D A nL Q k n (pc + 2) lv' st ws) : Gx p l e R s m args below meth c D A nL Q k n pc lv (.ref x :: st) ws :=
  fun H locs ls hP hD hS hl => lv_astore hC.1 hC.2.1 hd hl hn he (fun ls' hl' => kk H locs ls' hP hD hS hl')
theorem gq_lstore_n (hC : Gc p R s m args meth c D T A nL cc own Ts ret k n z) {pc : Nat} {lv : List (Nat × Value)} {st : List Value} {ws : va_W} {b : Fin 4} {i : Nat} {x : Int64} (lv' : List (Nat × Value)) (hd : decode cc pc = .ok (.lstore_n b, 1)) (hi : (b : Nat) = i) (hn : i + 1 < nL) (he : ((i, Value.long x) :: lv.filter (fun q => !(q.1 == i) && (!(q.1 == i + 1) && !(q.1 + 1 == i && q.2.category == 2)))) = lv') (kk : Gx p l e R s m args below meth c D A nL Q k n (pc + 1) lv' st ws) : Gx p l e R s m args below meth c D A nL Q k n pc lv (.long x :: st) ws :=
  fun H locs ls hP hD hS hl => lv_lstore_n hC.1 hC.2.1 hd hi hl hn he (fun ls' hl' => kk H locs ls' hP hD hS hl')
theorem gq_lstore (hC : Gc p R s m args meth c D T A nL cc own Ts ret k n z) {pc : Nat} {lv : List (Nat × Value)} {st : List Value} {ws : va_W} {i : Nat} {x : Int64} (lv' : List (Nat × Value)) (hd : decode cc pc = .ok (.lstore i, 2)) (hn : i + 1 < nL) (he : ((i, Value.long x) :: lv.filter (fun q => !(q.1 == i) && (!(q.1 == i + 1) && !(q.1 + 1 == i && q.2.category == 2)))) = lv') (kk : Gx p l e R s m args below meth c D A nL Q k n (pc + 2) lv' st ws) : Gx p l e R s m args below meth c D A nL Q k n pc lv (.long x :: st) ws :=
  fun H locs ls hP hD hS hl => lv_lstore hC.1 hC.2.1 hd hl hn he (fun ls' hl' => kk H locs ls' hP hD hS hl')
theorem gq_iinc (hC : Gc p R s m args meth c D T A nL cc own Ts ret k n z) {pc : Nat} {lv : List (Nat × Value)} {st : List Value} {ws : va_W} {i : Nat} {z : Int} {x : Int32} (q : Nat) (v : Int32) (lv' : List (Nat × Value)) (hd : decode cc pc = .ok (.iinc i z, 3)) (hq : lv[q]? = some (i, .int x)) (hv : x + Int32.ofInt z = v) (hn : i < nL) (he : ((i, Value.int v) :: lv.filter (fun q => !(q.1 == i) && !(q.1 + 1 == i && q.2.category == 2))) = lv') (kk : Gx p l e R s m args below meth c D A nL Q k n (pc + 3) lv' st ws) : Gx p l e R s m args below meth c D A nL Q k n pc lv st ws :=
  fun H locs ls hP hD hS hl => lv_iinc hC.1 hC.2.1 hd hl hq hv hn he (fun ls' hl' => kk H locs ls' hP hD hS hl')
theorem gq_iadd (hC : Gc p R s m args meth c D T A nL cc own Ts ret k n z) {pc : Nat} {lv : List (Nat × Value)} {st : List Value} {ws : va_W} {x y : Int32} (hd : decode cc pc = .ok (.iadd, 1)) (kk : Gx p l e R s m args below meth c D A nL Q k n (pc + 1) lv (.int (x + y) :: st) ws) : Gx p l e R s m args below meth c D A nL Q k n pc lv (.int y :: .int x :: st) ws :=
  fun H locs ls hP hD hS hl => lv_iadd hC.1 hC.2.1 hd (kk H locs ls hP hD hS hl)
theorem gq_isub (hC : Gc p R s m args meth c D T A nL cc own Ts ret k n z) {pc : Nat} {lv : List (Nat × Value)} {st : List Value} {ws : va_W} {x y : Int32} (hd : decode cc pc = .ok (.isub, 1)) (kk : Gx p l e R s m args below meth c D A nL Q k n (pc + 1) lv (.int (x - y) :: st) ws) : Gx p l e R s m args below meth c D A nL Q k n pc lv (.int y :: .int x :: st) ws :=
  fun H locs ls hP hD hS hl => lv_isub hC.1 hC.2.1 hd (kk H locs ls hP hD hS hl)
theorem gq_imul (hC : Gc p R s m args meth c D T A nL cc own Ts ret k n z) {pc : Nat} {lv : List (Nat × Value)} {st : List Value} {ws : va_W} {x y : Int32} (hd : decode cc pc = .ok (.imul, 1)) (kk : Gx p l e R s m args below meth c D A nL Q k n (pc + 1) lv (.int (x * y) :: st) ws) : Gx p l e R s m args below meth c D A nL Q k n pc lv (.int y :: .int x :: st) ws :=
  fun H locs ls hP hD hS hl => lv_imul hC.1 hC.2.1 hd (kk H locs ls hP hD hS hl)
theorem gq_iand (hC : Gc p R s m args meth c D T A nL cc own Ts ret k n z) {pc : Nat} {lv : List (Nat × Value)} {st : List Value} {ws : va_W} {x y : Int32} (hd : decode cc pc = .ok (.iand, 1)) (kk : Gx p l e R s m args below meth c D A nL Q k n (pc + 1) lv (.int (x &&& y) :: st) ws) : Gx p l e R s m args below meth c D A nL Q k n pc lv (.int y :: .int x :: st) ws :=
  fun H locs ls hP hD hS hl => lv_iand hC.1 hC.2.1 hd (kk H locs ls hP hD hS hl)
theorem gq_ior (hC : Gc p R s m args meth c D T A nL cc own Ts ret k n z) {pc : Nat} {lv : List (Nat × Value)} {st : List Value} {ws : va_W} {x y : Int32} (hd : decode cc pc = .ok (.ior, 1)) (kk : Gx p l e R s m args below meth c D A nL Q k n (pc + 1) lv (.int (x ||| y) :: st) ws) : Gx p l e R s m args below meth c D A nL Q k n pc lv (.int y :: .int x :: st) ws :=
  fun H locs ls hP hD hS hl => lv_ior hC.1 hC.2.1 hd (kk H locs ls hP hD hS hl)
theorem gq_ixor (hC : Gc p R s m args meth c D T A nL cc own Ts ret k n z) {pc : Nat} {lv : List (Nat × Value)} {st : List Value} {ws : va_W} {x y : Int32} (hd : decode cc pc = .ok (.ixor, 1)) (kk : Gx p l e R s m args below meth c D A nL Q k n (pc + 1) lv (.int (x ^^^ y) :: st) ws) : Gx p l e R s m args below meth c D A nL Q k n pc lv (.int y :: .int x :: st) ws :=
  fun H locs ls hP hD hS hl => lv_ixor hC.1 hC.2.1 hd (kk H locs ls hP hD hS hl)
theorem gq_ishl (hC : Gc p R s m args meth c D T A nL cc own Ts ret k n z) {pc : Nat} {lv : List (Nat × Value)} {st : List Value} {ws : va_W} {x y : Int32} (hd : decode cc pc = .ok (.ishl, 1)) (kk : Gx p l e R s m args below meth c D A nL Q k n (pc + 1) lv (.int (x <<< (y &&& 31)) :: st) ws) : Gx p l e R s m args below meth c D A nL Q k n pc lv (.int y :: .int x :: st) ws :=
  fun H locs ls hP hD hS hl => lv_ishl hC.1 hC.2.1 hd (kk H locs ls hP hD hS hl)
theorem gq_ishr (hC : Gc p R s m args meth c D T A nL cc own Ts ret k n z) {pc : Nat} {lv : List (Nat × Value)} {st : List Value} {ws : va_W} {x y : Int32} (hd : decode cc pc = .ok (.ishr, 1)) (kk : Gx p l e R s m args below meth c D A nL Q k n (pc + 1) lv (.int (x >>> (y &&& 31)) :: st) ws) : Gx p l e R s m args below meth c D A nL Q k n pc lv (.int y :: .int x :: st) ws :=
  fun H locs ls hP hD hS hl => lv_ishr hC.1 hC.2.1 hd (kk H locs ls hP hD hS hl)
theorem gq_idiv (hC : Gc p R s m args meth c D T A nL cc own Ts ret k n z) {pc : Nat} {lv : List (Nat × Value)} {st : List Value} {ws : va_W} {x y : Int32} (hd : decode cc pc = .ok (.idiv, 1)) (hne : ¬ y = 0) (kk : Gx p l e R s m args below meth c D A nL Q k n (pc + 1) lv (.int (x / y) :: st) ws) : Gx p l e R s m args below meth c D A nL Q k n pc lv (.int y :: .int x :: st) ws :=
  fun H locs ls hP hD hS hl => lv_idiv hC.1 hC.2.1 hd hne (kk H locs ls hP hD hS hl)
theorem gq_irem (hC : Gc p R s m args meth c D T A nL cc own Ts ret k n z) {pc : Nat} {lv : List (Nat × Value)} {st : List Value} {ws : va_W} {x y : Int32} (hd : decode cc pc = .ok (.irem, 1)) (hne : ¬ y = 0) (kk : Gx p l e R s m args below meth c D A nL Q k n (pc + 1) lv (.int (x - x / y * y) :: st) ws) : Gx p l e R s m args below meth c D A nL Q k n pc lv (.int y :: .int x :: st) ws :=
  fun H locs ls hP hD hS hl => lv_irem hC.1 hC.2.1 hd hne (kk H locs ls hP hD hS hl)
theorem gq_ineg (hC : Gc p R s m args meth c D T A nL cc own Ts ret k n z) {pc : Nat} {lv : List (Nat × Value)} {st : List Value} {ws : va_W} {x : Int32} (hd : decode cc pc = .ok (.ineg, 1)) (kk : Gx p l e R s m args below meth c D A nL Q k n (pc + 1) lv (.int (-x) :: st) ws) : Gx p l e R s m args below meth c D A nL Q k n pc lv (.int x :: st) ws :=
  fun H locs ls hP hD hS hl => lv_ineg hC.1 hC.2.1 hd (kk H locs ls hP hD hS hl)
theorem gq_iushr (hC : Gc p R s m args meth c D T A nL cc own Ts ret k n z) {pc : Nat} {lv : List (Nat × Value)} {st : List Value} {ws : va_W} {x y : Int32} (hd : decode cc pc = .ok (.iushr, 1)) (kk : Gx p l e R s m args below meth c D A nL Q k n (pc + 1) lv (.int ((x.toUInt32 >>> (y.toUInt32 &&& Int32.toUInt32 31)).toInt32) :: st) ws) : Gx p l e R s m args below meth c D A nL Q k n pc lv (.int y :: .int x :: st) ws :=
  fun H locs ls hP hD hS hl => lv_iushr hC.1 hC.2.1 hd rfl (kk H locs ls hP hD hS hl)
theorem gq_ladd (hC : Gc p R s m args meth c D T A nL cc own Ts ret k n z) {pc : Nat} {lv : List (Nat × Value)} {st : List Value} {ws : va_W} {x y : Int64} (hd : decode cc pc = .ok (.ladd, 1)) (kk : Gx p l e R s m args below meth c D A nL Q k n (pc + 1) lv (.long (x + y) :: st) ws) : Gx p l e R s m args below meth c D A nL Q k n pc lv (.long y :: .long x :: st) ws :=
  fun H locs ls hP hD hS hl => lv_ladd hC.1 hC.2.1 hd (kk H locs ls hP hD hS hl)
theorem gq_lsub (hC : Gc p R s m args meth c D T A nL cc own Ts ret k n z) {pc : Nat} {lv : List (Nat × Value)} {st : List Value} {ws : va_W} {x y : Int64} (hd : decode cc pc = .ok (.lsub, 1)) (kk : Gx p l e R s m args below meth c D A nL Q k n (pc + 1) lv (.long (x - y) :: st) ws) : Gx p l e R s m args below meth c D A nL Q k n pc lv (.long y :: .long x :: st) ws :=
  fun H locs ls hP hD hS hl => lv_lsub hC.1 hC.2.1 hd (kk H locs ls hP hD hS hl)
theorem gq_lmul (hC : Gc p R s m args meth c D T A nL cc own Ts ret k n z) {pc : Nat} {lv : List (Nat × Value)} {st : List Value} {ws : va_W} {x y : Int64} (hd : decode cc pc = .ok (.lmul, 1)) (kk : Gx p l e R s m args below meth c D A nL Q k n (pc + 1) lv (.long (x * y) :: st) ws) : Gx p l e R s m args below meth c D A nL Q k n pc lv (.long y :: .long x :: st) ws :=
  fun H locs ls hP hD hS hl => lv_lmul hC.1 hC.2.1 hd (kk H locs ls hP hD hS hl)
theorem gq_land (hC : Gc p R s m args meth c D T A nL cc own Ts ret k n z) {pc : Nat} {lv : List (Nat × Value)} {st : List Value} {ws : va_W} {x y : Int64} (hd : decode cc pc = .ok (.land, 1)) (kk : Gx p l e R s m args below meth c D A nL Q k n (pc + 1) lv (.long (x &&& y) :: st) ws) : Gx p l e R s m args below meth c D A nL Q k n pc lv (.long y :: .long x :: st) ws :=
  fun H locs ls hP hD hS hl => lv_land hC.1 hC.2.1 hd (kk H locs ls hP hD hS hl)
theorem gq_lor (hC : Gc p R s m args meth c D T A nL cc own Ts ret k n z) {pc : Nat} {lv : List (Nat × Value)} {st : List Value} {ws : va_W} {x y : Int64} (hd : decode cc pc = .ok (.lor, 1)) (kk : Gx p l e R s m args below meth c D A nL Q k n (pc + 1) lv (.long (x ||| y) :: st) ws) : Gx p l e R s m args below meth c D A nL Q k n pc lv (.long y :: .long x :: st) ws :=
  fun H locs ls hP hD hS hl => lv_lor hC.1 hC.2.1 hd (kk H locs ls hP hD hS hl)
theorem gq_ldiv (hC : Gc p R s m args meth c D T A nL cc own Ts ret k n z) {pc : Nat} {lv : List (Nat × Value)} {st : List Value} {ws : va_W} {x y : Int64} (hd : decode cc pc = .ok (.ldiv, 1)) (hne : ¬ y = 0) (kk : Gx p l e R s m args below meth c D A nL Q k n (pc + 1) lv (.long (x / y) :: st) ws) : Gx p l e R s m args below meth c D A nL Q k n pc lv (.long y :: .long x :: st) ws :=
  fun H locs ls hP hD hS hl => lv_ldiv hC.1 hC.2.1 hd hne (kk H locs ls hP hD hS hl)
theorem gq_lrem (hC : Gc p R s m args meth c D T A nL cc own Ts ret k n z) {pc : Nat} {lv : List (Nat × Value)} {st : List Value} {ws : va_W} {x y : Int64} (hd : decode cc pc = .ok (.lrem, 1)) (hne : ¬ y = 0) (kk : Gx p l e R s m args below meth c D A nL Q k n (pc + 1) lv (.long (x - x / y * y) :: st) ws) : Gx p l e R s m args below meth c D A nL Q k n pc lv (.long y :: .long x :: st) ws :=
  fun H locs ls hP hD hS hl => lv_lrem hC.1 hC.2.1 hd hne (kk H locs ls hP hD hS hl)
theorem gq_lushr (hC : Gc p R s m args meth c D T A nL cc own Ts ret k n z) {pc : Nat} {lv : List (Nat × Value)} {st : List Value} {ws : va_W} {x : Int64} {y : Int32} (hd : decode cc pc = .ok (.lushr, 1)) (kk : Gx p l e R s m args below meth c D A nL Q k n (pc + 1) lv (.long ((x.toUInt64 >>> (y.toInt64.toUInt64 &&& Int64.toUInt64 63)).toInt64) :: st) ws) : Gx p l e R s m args below meth c D A nL Q k n pc lv (.int y :: .long x :: st) ws :=
  fun H locs ls hP hD hS hl => lv_lushr hC.1 hC.2.1 hd rfl (kk H locs ls hP hD hS hl)
theorem gq_lshl (hC : Gc p R s m args meth c D T A nL cc own Ts ret k n z) {pc : Nat} {lv : List (Nat × Value)} {st : List Value} {ws : va_W} {x : Int64} {y : Int32} (hd : decode cc pc = .ok (.lshl, 1)) (kk : Gx p l e R s m args below meth c D A nL Q k n (pc + 1) lv (.long (x <<< (y.toInt64 &&& 63)) :: st) ws) : Gx p l e R s m args below meth c D A nL Q k n pc lv (.int y :: .long x :: st) ws :=
  fun H locs ls hP hD hS hl => lv_lshl hC.1 hC.2.1 hd rfl (kk H locs ls hP hD hS hl)
theorem gq_i2l (hC : Gc p R s m args meth c D T A nL cc own Ts ret k n z) {pc : Nat} {lv : List (Nat × Value)} {st : List Value} {ws : va_W} {x : Int32} (hd : decode cc pc = .ok (.i2l, 1)) (kk : Gx p l e R s m args below meth c D A nL Q k n (pc + 1) lv (.long x.toInt64 :: st) ws) : Gx p l e R s m args below meth c D A nL Q k n pc lv (.int x :: st) ws :=
  fun H locs ls hP hD hS hl => lv_i2l hC.1 hC.2.1 hd rfl (kk H locs ls hP hD hS hl)
theorem gq_l2i (hC : Gc p R s m args meth c D T A nL cc own Ts ret k n z) {pc : Nat} {lv : List (Nat × Value)} {st : List Value} {ws : va_W} {x : Int64} (hd : decode cc pc = .ok (.l2i, 1)) (kk : Gx p l e R s m args below meth c D A nL Q k n (pc + 1) lv (.int x.toInt32 :: st) ws) : Gx p l e R s m args below meth c D A nL Q k n pc lv (.long x :: st) ws :=
  fun H locs ls hP hD hS hl => lv_l2i hC.1 hC.2.1 hd rfl (kk H locs ls hP hD hS hl)
theorem gq_i2c (hC : Gc p R s m args meth c D T A nL cc own Ts ret k n z) {pc : Nat} {lv : List (Nat × Value)} {st : List Value} {ws : va_W} {x : Int32} (hd : decode cc pc = .ok (.i2c, 1)) (kk : Gx p l e R s m args below meth c D A nL Q k n (pc + 1) lv (.int ((x.toUInt32 % 65536).toInt32) :: st) ws) : Gx p l e R s m args below meth c D A nL Q k n pc lv (.int x :: st) ws :=
  fun H locs ls hP hD hS hl => lv_i2c hC.1 hC.2.1 hd rfl (kk H locs ls hP hD hS hl)
theorem gq_lcmp (hC : Gc p R s m args meth c D T A nL cc own Ts ret k n z) {pc : Nat} {lv : List (Nat × Value)} {st : List Value} {ws : va_W} {x y : Int64} (hd : decode cc pc = .ok (.lcmp, 1)) (kk : Gx p l e R s m args below meth c D A nL Q k n (pc + 1) lv (.int (lg_cmp x y) :: st) ws) : Gx p l e R s m args below meth c D A nL Q k n pc lv (.long y :: .long x :: st) ws :=
  fun H locs ls hP hD hS hl => W.lcmp hC.1 hC.2.1 hd (kk H locs ls hP hD hS hl)
theorem gq_dup (hC : Gc p R s m args meth c D T A nL cc own Ts ret k n z) {pc : Nat} {lv : List (Nat × Value)} {st : List Value} {ws : va_W} {v : Value} (hd : decode cc pc = .ok (.dup, 1)) (hv : v.category = 1) (kk : Gx p l e R s m args below meth c D A nL Q k n (pc + 1) lv (v :: v :: st) ws) : Gx p l e R s m args below meth c D A nL Q k n pc lv (v :: st) ws :=
  fun H locs ls hP hD hS hl => lv_dup hC.1 hC.2.1 hd hv (kk H locs ls hP hD hS hl)
theorem gq_pop (hC : Gc p R s m args meth c D T A nL cc own Ts ret k n z) {pc : Nat} {lv : List (Nat × Value)} {st : List Value} {ws : va_W} {v : Value} (hd : decode cc pc = .ok (.pop, 1)) (hv : v.category = 1) (kk : Gx p l e R s m args below meth c D A nL Q k n (pc + 1) lv st ws) : Gx p l e R s m args below meth c D A nL Q k n pc lv (v :: st) ws :=
  fun H locs ls hP hD hS hl => lv_pop hC.1 hC.2.1 hd hv (kk H locs ls hP hD hS hl)
theorem gq_dup2 (hC : Gc p R s m args meth c D T A nL cc own Ts ret k n z) {pc : Nat} {lv : List (Nat × Value)} {st : List Value} {ws : va_W} {v u : Value} (hd : decode cc pc = .ok (.dup2, 1)) (hv : v.category = 1) (hu : u.category = 1) (kk : Gx p l e R s m args below meth c D A nL Q k n (pc + 1) lv (v :: u :: v :: u :: st) ws) : Gx p l e R s m args below meth c D A nL Q k n pc lv (v :: u :: st) ws :=
  fun H locs ls hP hD hS hl => lv_dup2_11 hC.1 hC.2.1 hd hv hu (kk H locs ls hP hD hS hl)
theorem gq_if_eq (hC : Gc p R s m args meth c D T A nL cc own Ts ret k n z) {pc : Nat} {lv : List (Nat × Value)} {st : List Value} {ws : va_W} {x : Int32} {off : Int} (tgt : Nat) (hd : decode cc pc = .ok (.ifCond .eq off, 3)) (ht : (pc : Int) + off = (tgt : Int)) (kt : x = 0 → Gx p l e R s m args below meth c D A nL Q k n tgt lv st ws) (kf : ¬ x = 0 → Gx p l e R s m args below meth c D A nL Q k n (pc + 3) lv st ws) : Gx p l e R s m args below meth c D A nL Q k n pc lv (.int x :: st) ws :=
  fun H locs ls hP hD hS hl => lv_if_eq hC.1 hC.2.1 hd ht (fun h => kt h H locs ls hP hD hS hl) (fun h => kf h H locs ls hP hD hS hl)
theorem gq_icmp_eq (hC : Gc p R s m args meth c D T A nL cc own Ts ret k n z) {pc : Nat} {lv : List (Nat × Value)} {st : List Value} {ws : va_W} {x y : Int32} {off : Int} (tgt : Nat) (hd : decode cc pc = .ok (.if_icmp .eq off, 3)) (ht : (pc : Int) + off = (tgt : Int)) (kt : x = y → Gx p l e R s m args below meth c D A nL Q k n tgt lv st ws) (kf : ¬ x = y → Gx p l e R s m args below meth c D A nL Q k n (pc + 3) lv st ws) : Gx p l e R s m args below meth c D A nL Q k n pc lv (.int y :: .int x :: st) ws :=
  fun H locs ls hP hD hS hl => lv_icmp_eq hC.1 hC.2.1 hd ht (fun h => kt h H locs ls hP hD hS hl) (fun h => kf h H locs ls hP hD hS hl)
theorem gq_if_ne (hC : Gc p R s m args meth c D T A nL cc own Ts ret k n z) {pc : Nat} {lv : List (Nat × Value)} {st : List Value} {ws : va_W} {x : Int32} {off : Int} (tgt : Nat) (hd : decode cc pc = .ok (.ifCond .ne off, 3)) (ht : (pc : Int) + off = (tgt : Int)) (kt : ¬ x = 0 → Gx p l e R s m args below meth c D A nL Q k n tgt lv st ws) (kf : x = 0 → Gx p l e R s m args below meth c D A nL Q k n (pc + 3) lv st ws) : Gx p l e R s m args below meth c D A nL Q k n pc lv (.int x :: st) ws :=
  fun H locs ls hP hD hS hl => lv_if_ne hC.1 hC.2.1 hd ht (fun h => kt h H locs ls hP hD hS hl) (fun h => kf h H locs ls hP hD hS hl)
theorem gq_icmp_ne (hC : Gc p R s m args meth c D T A nL cc own Ts ret k n z) {pc : Nat} {lv : List (Nat × Value)} {st : List Value} {ws : va_W} {x y : Int32} {off : Int} (tgt : Nat) (hd : decode cc pc = .ok (.if_icmp .ne off, 3)) (ht : (pc : Int) + off = (tgt : Int)) (kt : ¬ x = y → Gx p l e R s m args below meth c D A nL Q k n tgt lv st ws) (kf : x = y → Gx p l e R s m args below meth c D A nL Q k n (pc + 3) lv st ws) : Gx p l e R s m args below meth c D A nL Q k n pc lv (.int y :: .int x :: st) ws :=
  fun H locs ls hP hD hS hl => lv_icmp_ne hC.1 hC.2.1 hd ht (fun h => kt h H locs ls hP hD hS hl) (fun h => kf h H locs ls hP hD hS hl)
theorem gq_if_lt (hC : Gc p R s m args meth c D T A nL cc own Ts ret k n z) {pc : Nat} {lv : List (Nat × Value)} {st : List Value} {ws : va_W} {x : Int32} {off : Int} (tgt : Nat) (hd : decode cc pc = .ok (.ifCond .lt off, 3)) (ht : (pc : Int) + off = (tgt : Int)) (kt : x < 0 → Gx p l e R s m args below meth c D A nL Q k n tgt lv st ws) (kf : ¬ x < 0 → Gx p l e R s m args below meth c D A nL Q k n (pc + 3) lv st ws) : Gx p l e R s m args below meth c D A nL Q k n pc lv (.int x :: st) ws :=
  fun H locs ls hP hD hS hl => lv_if_lt hC.1 hC.2.1 hd ht (fun h => kt h H locs ls hP hD hS hl) (fun h => kf h H locs ls hP hD hS hl)
theorem gq_icmp_lt (hC : Gc p R s m args meth c D T A nL cc own Ts ret k n z) {pc : Nat} {lv : List (Nat × Value)} {st : List Value} {ws : va_W} {x y : Int32} {off : Int} (tgt : Nat) (hd : decode cc pc = .ok (.if_icmp .lt off, 3)) (ht : (pc : Int) + off = (tgt : Int)) (kt : x < y → Gx p l e R s m args below meth c D A nL Q k n tgt lv st ws) (kf : ¬ x < y → Gx p l e R s m args below meth c D A nL Q k n (pc + 3) lv st ws) : Gx p l e R s m args below meth c D A nL Q k n pc lv (.int y :: .int x :: st) ws :=
  fun H locs ls hP hD hS hl => lv_icmp_lt hC.1 hC.2.1 hd ht (fun h => kt h H locs ls hP hD hS hl) (fun h => kf h H locs ls hP hD hS hl)
theorem gq_if_ge (hC : Gc p R s m args meth c D T A nL cc own Ts ret k n z) {pc : Nat} {lv : List (Nat × Value)} {st : List Value} {ws : va_W} {x : Int32} {off : Int} (tgt : Nat) (hd : decode cc pc = .ok (.ifCond .ge off, 3)) (ht : (pc : Int) + off = (tgt : Int)) (kt : 0 ≤ x → Gx p l e R s m args below meth c D A nL Q k n tgt lv st ws) (kf : ¬ 0 ≤ x → Gx p l e R s m args below meth c D A nL Q k n (pc + 3) lv st ws) : Gx p l e R s m args below meth c D A nL Q k n pc lv (.int x :: st) ws :=
  fun H locs ls hP hD hS hl => lv_if_ge hC.1 hC.2.1 hd ht (fun h => kt h H locs ls hP hD hS hl) (fun h => kf h H locs ls hP hD hS hl)
theorem gq_icmp_ge (hC : Gc p R s m args meth c D T A nL cc own Ts ret k n z) {pc : Nat} {lv : List (Nat × Value)} {st : List Value} {ws : va_W} {x y : Int32} {off : Int} (tgt : Nat) (hd : decode cc pc = .ok (.if_icmp .ge off, 3)) (ht : (pc : Int) + off = (tgt : Int)) (kt : y ≤ x → Gx p l e R s m args below meth c D A nL Q k n tgt lv st ws) (kf : ¬ y ≤ x → Gx p l e R s m args below meth c D A nL Q k n (pc + 3) lv st ws) : Gx p l e R s m args below meth c D A nL Q k n pc lv (.int y :: .int x :: st) ws :=
  fun H locs ls hP hD hS hl => lv_icmp_ge hC.1 hC.2.1 hd ht (fun h => kt h H locs ls hP hD hS hl) (fun h => kf h H locs ls hP hD hS hl)
theorem gq_if_gt (hC : Gc p R s m args meth c D T A nL cc own Ts ret k n z) {pc : Nat} {lv : List (Nat × Value)} {st : List Value} {ws : va_W} {x : Int32} {off : Int} (tgt : Nat) (hd : decode cc pc = .ok (.ifCond .gt off, 3)) (ht : (pc : Int) + off = (tgt : Int)) (kt : 0 < x → Gx p l e R s m args below meth c D A nL Q k n tgt lv st ws) (kf : ¬ 0 < x → Gx p l e R s m args below meth c D A nL Q k n (pc + 3) lv st ws) : Gx p l e R s m args below meth c D A nL Q k n pc lv (.int x :: st) ws :=
  fun H locs ls hP hD hS hl => lv_if_gt hC.1 hC.2.1 hd ht (fun h => kt h H locs ls hP hD hS hl) (fun h => kf h H locs ls hP hD hS hl)
theorem gq_icmp_gt (hC : Gc p R s m args meth c D T A nL cc own Ts ret k n z) {pc : Nat} {lv : List (Nat × Value)} {st : List Value} {ws : va_W} {x y : Int32} {off : Int} (tgt : Nat) (hd : decode cc pc = .ok (.if_icmp .gt off, 3)) (ht : (pc : Int) + off = (tgt : Int)) (kt : y < x → Gx p l e R s m args below meth c D A nL Q k n tgt lv st ws) (kf : ¬ y < x → Gx p l e R s m args below meth c D A nL Q k n (pc + 3) lv st ws) : Gx p l e R s m args below meth c D A nL Q k n pc lv (.int y :: .int x :: st) ws :=
  fun H locs ls hP hD hS hl => lv_icmp_gt hC.1 hC.2.1 hd ht (fun h => kt h H locs ls hP hD hS hl) (fun h => kf h H locs ls hP hD hS hl)
theorem gq_if_le (hC : Gc p R s m args meth c D T A nL cc own Ts ret k n z) {pc : Nat} {lv : List (Nat × Value)} {st : List Value} {ws : va_W} {x : Int32} {off : Int} (tgt : Nat) (hd : decode cc pc = .ok (.ifCond .le off, 3)) (ht : (pc : Int) + off = (tgt : Int)) (kt : x ≤ 0 → Gx p l e R s m args below meth c D A nL Q k n tgt lv st ws) (kf : ¬ x ≤ 0 → Gx p l e R s m args below meth c D A nL Q k n (pc + 3) lv st ws) : Gx p l e R s m args below meth c D A nL Q k n pc lv (.int x :: st) ws :=
  fun H locs ls hP hD hS hl => lv_if_le hC.1 hC.2.1 hd ht (fun h => kt h H locs ls hP hD hS hl) (fun h => kf h H locs ls hP hD hS hl)
theorem gq_icmp_le (hC : Gc p R s m args meth c D T A nL cc own Ts ret k n z) {pc : Nat} {lv : List (Nat × Value)} {st : List Value} {ws : va_W} {x y : Int32} {off : Int} (tgt : Nat) (hd : decode cc pc = .ok (.if_icmp .le off, 3)) (ht : (pc : Int) + off = (tgt : Int)) (kt : x ≤ y → Gx p l e R s m args below meth c D A nL Q k n tgt lv st ws) (kf : ¬ x ≤ y → Gx p l e R s m args below meth c D A nL Q k n (pc + 3) lv st ws) : Gx p l e R s m args below meth c D A nL Q k n pc lv (.int y :: .int x :: st) ws :=
  fun H locs ls hP hD hS hl => lv_icmp_le hC.1 hC.2.1 hd ht (fun h => kt h H locs ls hP hD hS hl) (fun h => kf h H locs ls hP hD hS hl)
theorem gq_goto (hC : Gc p R s m args meth c D T A nL cc own Ts ret k n z) {pc : Nat} {lv : List (Nat × Value)} {st : List Value} {ws : va_W} {off : Int} (tgt : Nat) (hd : decode cc pc = .ok (.goto off, 3)) (ht : (pc : Int) + off = (tgt : Int)) (kk : Gx p l e R s m args below meth c D A nL Q k n tgt lv st ws) : Gx p l e R s m args below meth c D A nL Q k n pc lv st ws :=
  fun H locs ls hP hD hS hl => lv_goto hC.1 hC.2.1 hd ht (kk H locs ls hP hD hS hl)
theorem gq_loc {pc : Nat} {lv : List (Nat × Value)} {st : List Value} {ws : va_W} (lv' : List (Nat × Value)) (h : lv = lv') (kk : Gx p l e R s m args below meth c D A nL Q k n pc lv' st ws) : Gx p l e R s m args below meth c D A nL Q k n pc lv st ws := h ▸ kk
theorem gq_sub {pc : Nat} {lv : List (Nat × Value)} {st : List Value} {ws : va_W} (lv' : List (Nat × Value)) (ks : List Nat) (h : lv_pick lv ks = lv') (kk : Gx p l e R s m args below meth c D A nL Q k n pc lv' st ws) : Gx p l e R s m args below meth c D A nL Q k n pc lv st ws :=
  fun H locs ls hP hD hS hl => kk H locs ls hP hD hS (lv_sub hl ks h)
theorem gq_get (hC : Gc p R s m args meth c D T A nL cc own Ts ret k n z) {pc : Nat} {lv : List (Nat × Value)} {st : List Value} {ws : va_W} {ix kf ci a N : Nat} {C : String} {TT : u_T} {fs : List Value} {v : Value} (q0 : Nat) (hin : ∀ w ∈ u_ws C TT N, w ∈ Ts) (he : ws[q0]? = some (a, .inr (ci, fs))) (hc : gq_cl[ci]? = some (C, TT, N)) (hk : kf < N) (hw : Cond.fieldLink own ix (TT kf).1 (TT kf).2.1 (TT kf).2.2.1 ∈ Ts) (hv : fs[kf]? = some v) (hd : decode cc pc = .ok (.getfield ix, 3)) (kk : Gx p l e R s m args below meth c D A nL Q k n (pc + 3) lv (v :: st) ws) : Gx p l e R s m args below meth c D A nL Q k n pc lv (.ref a :: st) ws :=
  fun H locs ls hP hD hS hl => va_get hC.1 hC.2.1 hC.2.2.2.2.1 hin hC.2.2.2.1 hC.2.2.2.2.2.1.1 hP q0 he hc kf hk (hC.2.2.2.2.1 _ hw) (fun _ h => h) hv hd (kk H locs ls hP hD hS hl)
theorem gq_put1 (hC : Gc p R s m args meth c D T A nL cc own Ts ret k n z) {pc : Nat} {lv : List (Nat × Value)} {st : List Value} {ws : va_W} {ix kf ci a N : Nat} {C : String} {TT : u_T} {fs : List Value} {v : Value} (q0 : Nat) (ws' : va_W) (ty0 : Nat → FieldType) (hty : ∀ k, k < N → parseFieldDescriptor (TT k).2.2.1 = some (ty0 k)) (hnm : ∀ a, a < N → ∀ b, b < N → a ≠ b → (TT a).2.1 ≠ (TT b).2.1) (hin : ∀ w ∈ u_ws C TT N, w ∈ Ts) (he : ws[q0]? = some (a, .inr (ci, fs))) (hc : gq_cl[ci]? = some (C, TT, N)) (hk : kf < N) (hw : Cond.fieldLink own ix (TT kf).1 (TT kf).2.1 (TT kf).2.2.1 ∈ Ts) (hfin : (TT kf).2.2.2 = false) (hn : narrow (ty0 kf) v = v) (hfit : fits (ty0 kf) v = true) (hlen : kf < fs.length) (hd : decode cc pc = .ok (.putfield ix, 3)) (hnew : ws.set q0 (a, .inr (ci, fs.set kf v)) = ws') (kk : Gx p l e R s m args below meth c D A nL Q k n (pc + 3) lv st ws') : Gx p l e R s m args below meth c D A nL Q k n pc lv (v :: .ref a :: st) ws :=
  fun H locs ls hP hD hS hl => va_put hC.1 hC.2.1 hC.2.2.2.2.1 hin ty0 hty hnm hC.2.2.2.1 hC.2.2.2.2.2.1.1 hP hD hS q0 he hc kf hk (hC.2.2.2.2.1 _ hw) (fun _ h => h) hfin (hty kf hk) hn hfit hlen hd (fun H1 locs1 hP1 hD1 hS1 => kk H1 locs1 ls (by rw [← hnew]; exact hP1) (by rw [← hnew]; exact hD1) hS1 hl)
theorem gq_iald (hC : Gc p R s m args meth c D T A nL cc own Ts ret k n z) {pc : Nat} {lv : List (Nat × Value)} {st : List Value} {ws : va_W} {cA : ClassId} {a N : Nat} {f : Nat → Int32} {i : Int32} (q0 t0 : Nat) (he : ws[q0]? = some (a, .inl (cA, N, .inl f))) (ht : T[t0]? = some (cA, .int)) (hi : vp_in i N) (hd : decode cc pc = .ok (.iaload, 1)) (kk : Gx p l e R s m args below meth c D A nL Q k n (pc + 1) lv (.int (f i.toNatClampNeg) :: st) ws) : Gx p l e R s m args below meth c D A nL Q k n pc lv (.int i :: .ref a :: st) ws :=
  fun H locs ls hP hD hS hl => va_iald hC.1 hC.2.1 hC.2.2.2.2.2.1.1 hP q0 t0 he ht hi hd (kk H locs ls hP hD hS hl)
theorem gq_zald (hC : Gc p R s m args meth c D T A nL cc own Ts ret k n z) {pc : Nat} {lv : List (Nat × Value)} {st : List Value} {ws : va_W} {cA : ClassId} {a N : Nat} {f : Nat → Int32} {i : Int32} (q0 t0 : Nat) (he : ws[q0]? = some (a, .inl (cA, N, .inl f))) (ht : T[t0]? = some (cA, .boolean)) (hi : vp_in i N) (hd : decode cc pc = .ok (.baload, 1)) (kk : Gx p l e R s m args below meth c D A nL Q k n (pc + 1) lv (.int (f i.toNatClampNeg) :: st) ws) : Gx p l e R s m args below meth c D A nL Q k n pc lv (.int i :: .ref a :: st) ws :=
  fun H locs ls hP hD hS hl => va_zald hC.1 hC.2.1 hC.2.2.2.2.2.1.1 hP q0 t0 he ht hi hd (kk H locs ls hP hD hS hl)
theorem gq_lald (hC : Gc p R s m args meth c D T A nL cc own Ts ret k n z) {pc : Nat} {lv : List (Nat × Value)} {st : List Value} {ws : va_W} {cA : ClassId} {a N : Nat} {f : Nat → Int64} {i : Int32} (q0 t0 : Nat) (he : ws[q0]? = some (a, .inl (cA, N, .inr (.inl f)))) (ht : T[t0]? = some (cA, .long)) (hi : vp_in i N) (hd : decode cc pc = .ok (.laload, 1)) (kk : Gx p l e R s m args below meth c D A nL Q k n (pc + 1) lv (.long (f i.toNatClampNeg) :: st) ws) : Gx p l e R s m args below meth c D A nL Q k n pc lv (.int i :: .ref a :: st) ws :=
  fun H locs ls hP hD hS hl => va_lald hC.1 hC.2.1 hC.2.2.2.2.2.1.1 hP q0 t0 he ht hi hd (kk H locs ls hP hD hS hl)
theorem gq_iast (hC : Gc p R s m args meth c D T A nL cc own Ts ret k n z) {pc : Nat} {lv : List (Nat × Value)} {st : List Value} {ws : va_W} {cA : ClassId} {a N : Nat} {f : Nat → Int32} {i : Int32} {x : Int32} (q0 t0 : Nat) (ws' : va_W) (he : ws[q0]? = some (a, .inl (cA, N, .inl f))) (ht : T[t0]? = some (cA, .int)) (hi : vp_in i N) (hd : decode cc pc = .ok (.iastore, 1)) (hnew : ws.set q0 (a, .inl (cA, N, .inl (upd f i.toNatClampNeg x))) = ws') (kk : Gx p l e R s m args below meth c D A nL Q k n (pc + 1) lv st ws') : Gx p l e R s m args below meth c D A nL Q k n pc lv (.int x :: .int i :: .ref a :: st) ws :=
  fun H locs ls hP hD hS hl => va_iast hC.1 hC.2.1 hC.2.2.2.2.2.1.1 hP hD hS q0 t0 he ht hi hd (fun H1 locs1 hP1 hD1 hS1 => kk H1 locs1 ls (by rw [← hnew]; exact hP1) (by rw [← hnew]; exact hD1) hS1 hl)
theorem gq_zast (hC : Gc p R s m args meth c D T A nL cc own Ts ret k n z) {pc : Nat} {lv : List (Nat × Value)} {st : List Value} {ws : va_W} {cA : ClassId} {a N : Nat} {f : Nat → Int32} {i : Int32} {x : Int32} (q0 t0 : Nat) (ws' : va_W) (he : ws[q0]? = some (a, .inl (cA, N, .inl f))) (ht : T[t0]? = some (cA, .boolean)) (hi : vp_in i N) (hd : decode cc pc = .ok (.bastore, 1)) (hnew : ws.set q0 (a, .inl (cA, N, .inl (upd f i.toNatClampNeg (vp_nar .boolean x)))) = ws') (kk : Gx p l e R s m args below meth c D A nL Q k n (pc + 1) lv st ws') : Gx p l e R s m args below meth c D A nL Q k n pc lv (.int x :: .int i :: .ref a :: st) ws :=
  fun H locs ls hP hD hS hl => va_zast hC.1 hC.2.1 hC.2.2.2.2.2.1.1 hP hD hS q0 t0 he ht hi hd (fun H1 locs1 hP1 hD1 hS1 => kk H1 locs1 ls (by rw [← hnew]; exact hP1) (by rw [← hnew]; exact hD1) hS1 hl)
theorem gq_last (hC : Gc p R s m args meth c D T A nL cc own Ts ret k n z) {pc : Nat} {lv : List (Nat × Value)} {st : List Value} {ws : va_W} {cA : ClassId} {a N : Nat} {f : Nat → Int64} {i : Int32} {x : Int64} (q0 t0 : Nat) (ws' : va_W) (he : ws[q0]? = some (a, .inl (cA, N, .inr (.inl f)))) (ht : T[t0]? = some (cA, .long)) (hi : vp_in i N) (hd : decode cc pc = .ok (.lastore, 1)) (hnew : ws.set q0 (a, .inl (cA, N, .inr (.inl (vp_updL f i.toNatClampNeg x)))) = ws') (kk : Gx p l e R s m args below meth c D A nL Q k n (pc + 1) lv st ws') : Gx p l e R s m args below meth c D A nL Q k n pc lv (.long x :: .int i :: .ref a :: st) ws :=
  fun H locs ls hP hD hS hl => va_last hC.1 hC.2.1 hC.2.2.2.2.2.1.1 hP hD hS q0 t0 he ht hi hd (fun H1 locs1 hP1 hD1 hS1 => kk H1 locs1 ls (by rw [← hnew]; exact hP1) (by rw [← hnew]; exact hD1) hS1 hl)
theorem gq_alen (hC : Gc p R s m args meth c D T A nL cc own Ts ret k n z) {pc : Nat} {lv : List (Nat × Value)} {st : List Value} {ws : va_W} {cA : ClassId} {a : Nat} {x : vp_A} {ty : FieldType} (q0 t0 : Nat) (v : Int32) (he : ws[q0]? = some (a, .inl (cA, x))) (ht : T[t0]? = some (cA, ty)) (hv : Int32.ofNat x.1 = v) (hd : decode cc pc = .ok (.arraylength, 1)) (kk : Gx p l e R s m args below meth c D A nL Q k n (pc + 1) lv (.int v :: st) ws) : Gx p l e R s m args below meth c D A nL Q k n pc lv (.ref a :: st) ws :=
  fun H locs ls hP hD hS hl => va_alen hC.1 hC.2.1 hC.2.2.2.2.2.1.1 hP q0 t0 he ht hv hd (kk H locs ls hP hD hS hl)
theorem gq_mmax (hC : Gc p R s m args meth c D T A nL cc own Ts ret k n z) {pc : Nat} {lv : List (Nat × Value)} {st : List Value} {ws : va_W} {ix : Nat} {x y : Int32} (hw : Cond.methodLink own ix Lib.Math.max.name ∈ Ts ∧ Cond.static Lib.Math.max.name ∈ Ts ∧ Cond.initialized "java/lang/Math" ∈ Ts ∧ Cond.code Lib.Math.max.name Lib.Math.max.code 2 (some .int) ∈ Ts) (hR : 1 ≤ R.frames ∧ (st.map fun v => v.category).sum + 13 ≤ R.locals) (hd : decode cc pc = .ok (.invokestatic ix, 3)) (kk : Gx p l e R s m args below meth c D A nL Q k n (pc + 3) lv (.int (if x < y then y else x) :: st) ws) : Gx p l e R s m args below meth c D A nL Q k n pc lv (.int y :: .int x :: st) ws :=
  fun H locs ls hP hD hS hl => va_mmax hC.1 hC.2.1 (hC.2.2.1.trans hl.1.symm) hC.2.2.2.1 (hC.2.2.2.2.1 _ hw.1) (hC.2.2.2.2.1 _ hw.2.1) (hC.2.2.2.2.1 _ hw.2.2.1) (hC.2.2.2.2.1 _ hw.2.2.2) hR.1 hR.2 hC.2.2.2.2.2.2.2.1.1 hC.2.2.2.2.2.2.2.1.2 hd (kk H locs ls hP hD hS hl)
theorem gq_mmin (hC : Gc p R s m args meth c D T A nL cc own Ts ret k n z) {pc : Nat} {lv : List (Nat × Value)} {st : List Value} {ws : va_W} {ix : Nat} {x y : Int32} (hw : Cond.methodLink own ix Lib.Math.min.name ∈ Ts ∧ Cond.static Lib.Math.min.name ∈ Ts ∧ Cond.initialized "java/lang/Math" ∈ Ts ∧ Cond.code Lib.Math.min.name Lib.Math.min.code 2 (some .int) ∈ Ts) (hR : 1 ≤ R.frames ∧ (st.map fun v => v.category).sum + 13 ≤ R.locals) (hd : decode cc pc = .ok (.invokestatic ix, 3)) (kk : Gx p l e R s m args below meth c D A nL Q k n (pc + 3) lv (.int (if y < x then y else x) :: st) ws) : Gx p l e R s m args below meth c D A nL Q k n pc lv (.int y :: .int x :: st) ws :=
  fun H locs ls hP hD hS hl => va_mmin hC.1 hC.2.1 (hC.2.2.1.trans hl.1.symm) hC.2.2.2.1 (hC.2.2.2.2.1 _ hw.1) (hC.2.2.2.2.1 _ hw.2.1) (hC.2.2.2.2.1 _ hw.2.2.1) (hC.2.2.2.2.1 _ hw.2.2.2) hR.1 hR.2 hC.2.2.2.2.2.2.2.1.1 hC.2.2.2.2.2.2.2.1.2 hd (kk H locs ls hP hD hS hl)
theorem gq_mabs (hC : Gc p R s m args meth c D T A nL cc own Ts ret k n z) {pc : Nat} {lv : List (Nat × Value)} {st : List Value} {ws : va_W} {ix : Nat} {x : Int32} (hw : Cond.methodLink own ix Lib.Math.abs.name ∈ Ts ∧ Cond.static Lib.Math.abs.name ∈ Ts ∧ Cond.initialized "java/lang/Math" ∈ Ts ∧ Cond.code Lib.Math.abs.name Lib.Math.abs.code 1 (some .int) ∈ Ts) (hR : 1 ≤ R.frames ∧ (st.map fun v => v.category).sum + 13 ≤ R.locals) (hd : decode cc pc = .ok (.invokestatic ix, 3)) (kk : Gx p l e R s m args below meth c D A nL Q k n (pc + 3) lv (.int (if 0 ≤ x then x else 0 - x) :: st) ws) : Gx p l e R s m args below meth c D A nL Q k n pc lv (.int x :: st) ws :=
  fun H locs ls hP hD hS hl => va_mabs hC.1 hC.2.1 (hC.2.2.1.trans hl.1.symm) hC.2.2.2.1 (hC.2.2.2.2.1 _ hw.1) (hC.2.2.2.2.1 _ hw.2.1) (hC.2.2.2.2.1 _ hw.2.2.1) (hC.2.2.2.2.1 _ hw.2.2.2) hR.1 hR.2 hC.2.2.2.2.2.2.2.1.1 hC.2.2.2.2.2.2.2.1.2 hd (kk H locs ls hP hD hS hl)
/-- System.arraycopy between two int rows -/
theorem gq_copyi (hC : Gc p R s m args meth c D T A nL cc own Ts ret k n z) {pc : Nat} {lv : List (Nat × Value)} {st : List Value} {ws : va_W} {ix a0 a1 N0 N1 : Nat} {cI : ClassId} {f g : Nat → Int32} {sp dp nn : Int32} (q0 q1 t0 : Nat) (ws' : va_W) (hw : Cond.methodLink own ix arraycopyName ∈ Ts ∧ Cond.native arraycopyName ∈ Ts ∧ Cond.static arraycopyName ∈ Ts ∧ Cond.initialized "java/lang/System" ∈ Ts) (he0 : ws[q0]? = some (a0, .inl (cI, N0, .inl f))) (he1 : ws[q1]? = some (a1, .inl (cI, N1, .inl g))) (ht : T[t0]? = some (cI, .int)) (h1 : ¬ sp < 0) (h2 : ¬ dp < 0) (h3 : ¬ nn < 0) (h4 : sp.toNatClampNeg + nn.toNatClampNeg ≤ N0) (h5 : dp.toNatClampNeg + nn.toNatClampNeg ≤ N1) (hR : 1 ≤ R.frames ∧ (st.map fun v => v.category).sum + (nativeFrameWords "java/lang/System" "arraycopy" 5 + 11) ≤ R.locals) (hd : decode cc pc = .ok (.invokestatic ix, 3)) (hnew : ws.set q1 (a1, .inl (cI, N1, .inl (va_cpy f g sp.toNatClampNeg dp.toNatClampNeg nn.toNatClampNeg))) = ws') (kk : Gx p l e R s m args below meth c D A nL Q k n (pc + 3) lv st ws') : Gx p l e R s m args below meth c D A nL Q k n pc lv (.int nn :: .int dp :: .ref a1 :: .int sp :: .ref a0 :: st) ws :=
  fun H locs ls hP hD hS hl => va_copyi hC.1 hC.2.1 (hC.2.2.1.trans hl.1.symm) hC.2.2.2.1 (hC.2.2.2.2.1 _ hw.1) (hC.2.2.2.2.1 _ hw.2.1) (hC.2.2.2.2.1 _ hw.2.2.1) (hC.2.2.2.2.1 _ hw.2.2.2) hC.2.2.2.2.2.1.1 hP hD hS q0 q1 t0 t0 he0 he1 ht ht rfl h1 h2 h3 h4 h5 (fun _ _ => rfl) hR.1 hR.2 hd (fun H1 locs1 hP1 hD1 hS1 => kk H1 locs1 ls (by rw [← hnew]; exact hP1) (by rw [← hnew]; exact hD1) hS1 hl)
theorem gq_copyl (hC : Gc p R s m args meth c D T A nL cc own Ts ret k n z) {pc : Nat} {lv : List (Nat × Value)} {st : List Value} {ws : va_W} {ix a0 a1 N0 N1 : Nat} {cI : ClassId} {f g : Nat → Int64} {sp dp nn : Int32} (q0 q1 t0 : Nat) (ws' : va_W) (hw : Cond.methodLink own ix arraycopyName ∈ Ts ∧ Cond.native arraycopyName ∈ Ts ∧ Cond.static arraycopyName ∈ Ts ∧ Cond.initialized "java/lang/System" ∈ Ts) (he0 : ws[q0]? = some (a0, .inl (cI, N0, .inr (.inl f)))) (he1 : ws[q1]? = some (a1, .inl (cI, N1, .inr (.inl g)))) (ht : T[t0]? = some (cI, .long)) (h1 : ¬ sp < 0) (h2 : ¬ dp < 0) (h3 : ¬ nn < 0) (h4 : sp.toNatClampNeg + nn.toNatClampNeg ≤ N0) (h5 : dp.toNatClampNeg + nn.toNatClampNeg ≤ N1) (hR : 1 ≤ R.frames ∧ (st.map fun v => v.category).sum + (nativeFrameWords "java/lang/System" "arraycopy" 5 + 11) ≤ R.locals) (hd : decode cc pc = .ok (.invokestatic ix, 3)) (hnew : ws.set q1 (a1, .inl (cI, N1, .inr (.inl (va_cpy f g sp.toNatClampNeg dp.toNatClampNeg nn.toNatClampNeg)))) = ws') (kk : Gx p l e R s m args below meth c D A nL Q k n (pc + 3) lv st ws') : Gx p l e R s m args below meth c D A nL Q k n pc lv (.int nn :: .int dp :: .ref a1 :: .int sp :: .ref a0 :: st) ws :=
  fun H locs ls hP hD hS hl => va_copyl hC.1 hC.2.1 (hC.2.2.1.trans hl.1.symm) hC.2.2.2.1 (hC.2.2.2.2.1 _ hw.1) (hC.2.2.2.2.1 _ hw.2.1) (hC.2.2.2.2.1 _ hw.2.2.1) (hC.2.2.2.2.1 _ hw.2.2.2) hC.2.2.2.2.2.1.1 hP hD hS q0 q1 t0 t0 he0 he1 ht ht rfl h1 h2 h3 h4 h5 (fun _ _ => rfl) hR.1 hR.2 hd (fun H1 locs1 hP1 hD1 hS1 => kk H1 locs1 ls (by rw [← hnew]; exact hP1) (by rw [← hnew]; exact hD1) hS1 hl)
end GQ
/-- the ends of methods, and their contracts: the world WS becomes WS', the answer is r -/
def gq_Qi (below : List Frame) (D : va_G) (A : Nat → Prop) (args : Array Value) (s : State) (r : Int32) (WS' : va_W) (k n : Nat) : State → Prop := MQ below (va_Qi (fun (r' : Int32) (_ : Unit) => r' = r) (fun _ t => va_P D gq_cl WS' t.heap) A) args s k n A
def gq_Ql (below : List Frame) (D : va_G) (A : Nat → Prop) (args : Array Value) (s : State) (r : Int64) (WS' : va_W) (k n : Nat) : State → Prop := MQ below (va_Ql (fun (r' : Int64) (_ : Unit) => r' = r) (fun _ t => va_P D gq_cl WS' t.heap) A) args s k n A
def gq_Qv (below : List Frame) (D : va_G) (A : Nat → Prop) (args : Array Value) (s : State) (WS' : va_W) (k n : Nat) : State → Prop := MQ below (va_Qv (fun (_ : Unit) => True) (fun _ t => va_P D gq_cl WS' t.heap) A) args s k n A
def gq_Pc (D : va_G) (T : List (ClassId × FieldType)) (z : Nat → Nat) (As : List Value) (WS : va_W) (sz : Nat) : Array Value → State → Prop := va_Pc As (fun U => U.heap.size = sz ∧ va_P D gq_cl WS U.heap ∧ gq_K D T U ∧ va_D (fun _ => True) WS ∧ gq_Z z (va_A WS sz) U U.heap)
def Mi (l : Launch) (y : MethodName) (wy : List Cond) (rm : Room) (D : va_G) (T : List (ClassId × FieldType)) (z : Nat → Nat) (As : List Value) (WS : va_W) (r : Int32) (WS' : va_W) (k n : Nat) : Prop := ∀ sz : Nat, Met l y wy rm (gq_Pc D T z As WS sz) (va_Qi (fun (r' : Int32) (_ : Unit) => r' = r) (fun _ t => va_P D gq_cl WS' t.heap) (va_A WS sz)) k n (va_A WS sz)
def Ml (l : Launch) (y : MethodName) (wy : List Cond) (rm : Room) (D : va_G) (T : List (ClassId × FieldType)) (z : Nat → Nat) (As : List Value) (WS : va_W) (r : Int64) (WS' : va_W) (k n : Nat) : Prop := ∀ sz : Nat, Met l y wy rm (gq_Pc D T z As WS sz) (va_Ql (fun (r' : Int64) (_ : Unit) => r' = r) (fun _ t => va_P D gq_cl WS' t.heap) (va_A WS sz)) k n (va_A WS sz)
def Mv (l : Launch) (y : MethodName) (wy : List Cond) (rm : Room) (D : va_G) (T : List (ClassId × FieldType)) (z : Nat → Nat) (As : List Value) (WS : va_W) (WS' : va_W) (k n : Nat) : Prop := ∀ sz : Nat, Met l y wy rm (gq_Pc D T z As WS sz) (va_Qv (fun (_ : Unit) => True) (fun _ t => va_P D gq_cl WS' t.heap) (va_A WS sz)) k n (va_A WS sz)
section GM
variable {l : Launch} {y : MethodName} {wy ws' : List Cond} {rm : Room} {D : va_G} {T : List (ClassId × FieldType)} {z : Nat → Nat} {As : List Value} {WS WS' : va_W} {k n : Nat} {cc : ByteArray} {maxL : Nat}
theorem gq_body {ret : Option FieldType} {Qc : Array Value → State → Outcome → State → Prop} {sz : Nat} (hy : plainName y.cls = true) (hw : wy = Cond.code y cc maxL ret :: ws') (hlen : (lg_sl As).length ≤ maxL) (hkn : k ≤ rm.cells ∧ n ≤ rm.slots)
    (body : ∀ (p : Program) (e : Env) (s : State) (m : MethodId) (args : Array Value) (below : List Frame) (meth : Method) (c : Code), s.heap.size = sz → Gc p rm s m args meth c D T (va_A WS s.heap.size) maxL cc y.cls wy ret k n z → args = As.toArray → Gx p l e rm s m args below meth c D (va_A WS s.heap.size) maxL (MQ below Qc args s k n (va_A WS sz)) 0 0 0 (lv_args 0 As) [] WS) : Met l y wy rm (gq_Pc D T z As WS sz) Qc k n (va_A WS sz) := by
  refine Met.ofW (cc := cc) (maxL := maxL) (ret := ret) hy hw ?_
  intro p e s m args below meth c s₁ B hml hv
  obtain ⟨rfl, hsz, hP, hK, hD0, hZ⟩ := hv
  have hD := hD0.self (sz := s.heap.size)
  have hl := lv_entry As (n := maxL) hlen
  rw [lg_entry_eq]
  exact body p e s m _ below meth c hsz ⟨B.exec, B.bytes, hml, findClass_of_methodNamed B.named, atoms_spec (ws := wy) B.pre, hK, (fun q h => Or.inr h), hkn, B.returns, B.notSynchronized, by rw [hsz]; exact hZ⟩ rfl s.heap [] _ hP hD va_S.rf hl
theorem Mi.of {ty : FieldType} {r : Int32} (hy : plainName y.cls = true) (hw : wy = Cond.code y cc maxL (some ty) :: ws') (hlen : (lg_sl As).length ≤ maxL) (hkn : k ≤ rm.cells ∧ n ≤ rm.slots)
    (body : ∀ (p : Program) (e : Env) (s : State) (m : MethodId) (args : Array Value) (below : List Frame) (meth : Method) (c : Code) (A : Nat → Prop), Gc p rm s m args meth c D T A maxL cc y.cls wy (some ty) k n z → args = As.toArray → Gx p l e rm s m args below meth c D A maxL (gq_Qi below D A args s r WS' k n) 0 0 0 (lv_args 0 As) [] WS) : Mi l y wy rm D T z As WS r WS' k n := fun sz =>
  gq_body hy hw hlen hkn (fun p e s m args below meth c hsz hC ha => by subst hsz; exact body p e s m args below meth c _ hC ha)
theorem Ml.of {r : Int64} (hy : plainName y.cls = true) (hw : wy = Cond.code y cc maxL (some .long) :: ws') (hlen : (lg_sl As).length ≤ maxL) (hkn : k ≤ rm.cells ∧ n ≤ rm.slots)
    (body : ∀ (p : Program) (e : Env) (s : State) (m : MethodId) (args : Array Value) (below : List Frame) (meth : Method) (c : Code) (A : Nat → Prop), Gc p rm s m args meth c D T A maxL cc y.cls wy (some .long) k n z → args = As.toArray → Gx p l e rm s m args below meth c D A maxL (gq_Ql below D A args s r WS' k n) 0 0 0 (lv_args 0 As) [] WS) : Ml l y wy rm D T z As WS r WS' k n := fun sz =>
  gq_body hy hw hlen hkn (fun p e s m args below meth c hsz hC ha => by subst hsz; exact body p e s m args below meth c _ hC ha)
theorem Mv.of (hy : plainName y.cls = true) (hw : wy = Cond.code y cc maxL none :: ws') (hlen : (lg_sl As).length ≤ maxL) (hkn : k ≤ rm.cells ∧ n ≤ rm.slots)
    (body : ∀ (p : Program) (e : Env) (s : State) (m : MethodId) (args : Array Value) (below : List Frame) (meth : Method) (c : Code) (A : Nat → Prop), Gc p rm s m args meth c D T A maxL cc y.cls wy none k n z → args = As.toArray → Gx p l e rm s m args below meth c D A maxL (gq_Qv below D A args s WS' k n) 0 0 0 (lv_args 0 As) [] WS) : Mv l y wy rm D T z As WS WS' k n := fun sz =>
  gq_body hy hw hlen hkn (fun p e s m args below meth c hsz hC ha => by subst hsz; exact body p e s m args below meth c _ hC ha)
end GM
section GR
variable {p : Program} {l : Launch} {e : Env} {R : Room} {s : State} {m : MethodId} {args : Array Value} {below : List Frame} {meth : Method} {c : Code} {D : va_G} {T : List (ClassId × FieldType)} {z : Nat → Nat} {A : Nat → Prop} {nL : Nat} {Q : State → Prop} {k n : Nat}
variable {cc : ByteArray} {own : String} {Ts : List Cond} {ret : Option FieldType}
theorem gq_iret {ty : FieldType} {r : Int32} (hC : Gc p R s m args meth c D T A nL cc own Ts (some ty) k n z) {pc : Nat} {lv : List (Nat × Value)} {ws : va_W} (hn : narrow ty (.int r) = .int r) (hd : decode cc pc = .ok (.ireturn, 1)) : Gx p l e R s m args below meth c D A nL (gq_Qi below D A args s r ws k n) k n pc lv [.int r] ws :=
  fun _ _ _ hP _ hS _ => W.zret hC.1 hC.2.1 hC.2.2.2.2.2.2.2.2.1 hn (fun _ ht _ => ⟨⟨r, (), rfl, rfl, by subst ht; exact hP⟩, hS.F ht⟩) hS.2.2 hd hC.2.2.2.2.2.2.2.2.2.1
theorem gq_lret {r : Int64} (hC : Gc p R s m args meth c D T A nL cc own Ts (some .long) k n z) {pc : Nat} {lv : List (Nat × Value)} {ws : va_W} (hd : decode cc pc = .ok (.lreturn, 1)) : Gx p l e R s m args below meth c D A nL (gq_Ql below D A args s r ws k n) k n pc lv [.long r] ws :=
  fun _ _ _ hP _ hS _ => W.lret hC.1 hC.2.1 hC.2.2.2.2.2.2.2.2.1 (fun _ ht _ => ⟨⟨r, (), rfl, rfl, by subst ht; exact hP⟩, hS.F ht⟩) hS.2.2 hd hC.2.2.2.2.2.2.2.2.2.1
theorem gq_vret (hC : Gc p R s m args meth c D T A nL cc own Ts none k n z) {pc : Nat} {lv : List (Nat × Value)} {ws : va_W} (hd : decode cc pc = .ok (.return_, 1)) : Gx p l e R s m args below meth c D A nL (gq_Qv below D A args s ws k n) k n pc lv [] ws :=
  fun _ _ _ hP _ hS _ => W.vret hC.1 hC.2.1 hC.2.2.2.2.2.2.2.2.1 (fun _ ht _ => ⟨⟨(), rfl, trivial, by subst ht; exact hP⟩, hS.F ht⟩) hS.2.2 hd hC.2.2.2.2.2.2.2.2.2.1
theorem gq_fm {is : List Nat} {ws WSc : va_W} (hcm : is.map (fun i => ws[i]?) = WSc.map some) : is.filterMap (fun i => ws[i]?) = WSc := by
  induction is generalizing WSc with
  | nil => cases WSc with
    | nil => rfl
    | cons q qs => simp at hcm
  | cons i is ih =>
    cases WSc with
    | nil => simp at hcm
    | cons q qs =>
      simp only [List.map_cons, List.cons.injEq] at hcm
      rw [List.filterMap_cons, hcm.1]
      simp only [ih hcm.2]
/-- what a callee may be told at its entry -/
theorem gq_blind {As : List Value} {WS : va_W} {sz : Nat} : FrameBlind (gq_Pc D T z As WS sz) := fun a U g mk q => ⟨q.1, q.2.1, q.2.2.1, q.2.2.2.1.calling, q.2.2.2.2.1, q.2.2.2.2.2.to (U := U.calling g mk a) (State.WarmedH.refl U) (fun _ _ _ => rfl) (Nat.le_refl _) (fun _ h => h)⟩
theorem gq_pre (hC : Gc p R s m args meth c D T A nL cc own Ts ret k n z) {ws WSc : va_W} {H : Heap} {As : List Value} {is : List Nat} {locs : List Loc} (hP : va_P D gq_cl ws H) (hD : va_D A ws) (hS : va_S A s.heap H locs) (hcm : is.map (fun i => ws[i]?) = WSc.map some) (hnd : va_nd is = true) : ∀ U : State, U.heap = H → s.WarmedH U.vm → gq_Pc D T z As WSc H.size As.toArray U := fun U hU hW => by
  have hcf := gq_fm hcm
  exact ⟨rfl, by rw [hU], by rw [hU]; exact hP.sub is hcf, hC.2.2.2.2.2.1.warm hW, (hD.sub is hnd hcm).weaken (fun _ _ _ _ => trivial), by subst hU; exact hC.2.2.2.2.2.2.2.2.2.2.to hW hS.2.1 hS.1 (va_free (wc := WSc) hD hS hC.2.2.2.2.2.2.1 is hcm)⟩
section Callee
variable {y : MethodName} {wy ws' : List Cond} {rm : Room} {As rest : List Value} {ws WSc WSc' : va_W} {bytes : ByteArray} {maxL ix b nA pc q0 ci : Nat} {C : String} {q : vw_C} {fs : List Value} {lv : List (Nat × Value)} {st : List Value}
/-- the words and the room of a call -/
theorem gq_callVi {rt : FieldType} {r : Int32} (hC : Gc p R s m args meth c D T A nL cc own Ts ret k n z) (is : List Nat) (wsN : va_W) (As : List Value) (rest : List Value) (hM : Mi l y wy rm D T z (.ref b :: As) WSc r WSc' 0 0) (hg : GoodIn Ts (wsV own ix C y wy)) (hw : wy = Cond.code y bytes maxL (some rt) :: ws') (hrm : rm.cells = 0 ∧ rm.slots = 0) (hy : y.cls = C ∧ y.cls ≠ "java/lang/invoke/MethodHandle" ∧ y.cls ≠ "java/lang/invoke/VarHandle" ∧ (parseMethodDescriptor y.desc).map (fun d => d.parameters.length) = some nA) (hR : rm.frames + 1 ≤ R.frames ∧ 8 + (maxL + 11) + rm.locals ≤ R.locals) (hcm : is.map (fun i => ws[i]?) = WSc.map some) (hnd : va_nd is = true) (ha : WSc'.map (fun q => q.1) = WSc.map (fun q => q.1)) (hrc : gq_cl[ci]? = some q) (hq : q.1 = C) (hrv : WSc[q0]? = some (b, .inr (ci, fs))) (hst : (rest.map fun v => v.category).sum ≤ 8) (hn : As.length = nA) (hd : decode cc pc = .ok (.invokevirtual ix, 3)) (hs0 : st = As.reverse ++ .ref b :: rest) (hnew : gq_put ws is WSc' = wsN) (kk : Gx p l e R s m args below meth c D A nL Q k n (pc + 3) lv (.int r :: rest) wsN) : Gx p l e R s m args below meth c D A nL Q k n pc lv st ws := by
  subst hs0; subst hnew; subst hq
  intro H locs ls hP hD hS hl
  have hpre := gq_pre (As := .ref b :: As) hC hP hD hS hcm hnd
  have hF := va_free (wc := WSc) hD hS hC.2.2.2.2.2.2.1 is hcm
  have hPc : va_P D gq_cl WSc H := hP.sub is (gq_fm hcm)
  refine va_calli (va_runV (As := As) (rest := rest) ⟨hC.1, hC.2.1, hC.2.2.1, hC.2.2.2.1, hC.2.2.2.2.1⟩ (hM H.size) (cwV nA hC.2.2.2.2.1 hg hw hrm.1 hrm.2 hy hR) ⟨gq_blind, va_recv hC.2.2.2.2.2.1.1 hPc hrc hrv, hpre⟩ rfl hn hl.1 rfl (lv_room hst) hd ⟨hC.2.2.2.2.2.2.2.1.1, hC.2.2.2.2.2.2.2.1.2⟩) hS (fun q _ h => hF q h) hF (fun r' u t H1 locs1 ht hvm hw2 hB hz1 hk1 hS1 => ?_)
  subst hw2
  rw [ht] at hB
  obtain ⟨hP2, hD2⟩ := gq_join hP hD is hcm ha hk1 hB
  exact kk H1 locs1 ls hP2 hD2 hS1 hl
end Callee
end GR
