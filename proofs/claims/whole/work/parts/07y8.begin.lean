/-! ===== the start: what the Statement gives ===== -/
abbrev st_F : List Cond := flatC (Jvm.Cond.and given_1 narrow_1)
theorem va_X_of {args : Array Value} {s : State} {tm : Term} {N : Nat} {f : Nat → Int32} (hN : N < 2 ^ 31) (harr : (Cond.arrayOf tm .int).before args s = true) (hlen : (Cond.eq (.length tm) (.int (Int32.ofNat N))).before args s = true) (hel : ∀ j, j < N → (Cond.eq (.elem tm (.int (Int32.ofNat j))) (.int (f j))).before args s = true) : ∃ t : Nat, tm.eval args s none [] s = some (.ref t) ∧ va_X t N f s s.heap ∧ t < s.heap.size := by
  obtain ⟨t, ht, cell, h1, h2, h3, h4, h5, h6, -⟩ := va_Tof (f := fun j => .int (f j)) (A := fun _ => False) hN harr (va_eqt hlen) (fun j hj => va_eqt (hel j hj)) (fun _ _ h => h)
  have hv := va_eqt hlen
  obtain ⟨b, cell2, ht2, hat, -⟩ := Term.length_spec hv
  cases ht.symm.trans ht2
  obtain ⟨hcell, -, -, -⟩ := State.arrayAt?_spec hat
  obtain rfl := Option.some.inj (h1.symm.trans hcell)
  have hsz : cell.slots.size < 2 ^ 31 := by
    simp only [Term.eval, ht, hat, Option.bind_eq_bind, Option.bind_some] at hv
    by_cases hlt : cell.slots.size < 2147483648
    · exact hlt
    · simp [hlt] at hv
  have hs : cell.slots.size = N := by
    have e := congrArg Int32.toInt h5
    have e1 : cell.slots.size.toInt32.toInt = cell.slots.size := Int32.toInt_ofNat_small hsz
    have e2 : (Int32.ofNat N).toInt = N := Int32.toInt_ofNat_small hN
    rw [e1, e2] at e
    omega
  exact ⟨t, ht, ⟨cell, h1, h2, h3, hs, h6⟩, (Array.getElem?_eq_some_iff.mp h1).1⟩
theorem st_out {s : State} : ∀ a : Nat, a < s.heap.size → ¬ (fun q : Nat => s.heap.size ≤ q) a := fun _ h => Nat.not_le.mpr h
theorem st_S1 {b : Nat} {s : State} (nm : String) (f : Nat → Int32) (hts : ∀ w ∈ lw_tbl, w.before #[Value.ref b] s = true) (hgv : ∀ w ∈ st_F, w.before #[Value.ref b] s = true) (h1 : Cond.laysStatic RX10 nm "[I" ∈ lw_tbl ∧ Cond.initialized RX10 ∈ lw_tbl) (h2 : Cond.arrayOf (.static RX10 nm "[I") .int ∈ st_F) (h3 : Cond.eq (.length (.static RX10 nm "[I")) (.int (Int32.ofNat 6)) ∈ st_F) (h4 : ∀ j, j < 6 → Cond.eq (.elem (.static RX10 nm "[I") (.int (Int32.ofNat j))) (.int (f j)) ∈ st_F) : ∃ t : Nat, gq_S1 nm t f (fun q : Nat => s.heap.size ≤ q) s s.heap ∧ (Term.static RX10 nm "[I").eval #[Value.ref b] s none [] s = some (.ref t) := by
  obtain ⟨t, e1, e2, e3⟩ := va_X_of (f := f) (by decide) (hgv _ h2) (hgv _ h3) (fun j hj => hgv _ (h4 j hj))
  exact ⟨t, ⟨va_Zref (hts _ h1.1) (hts _ h1.2) e1 st_out, e2, e3, st_out t e3⟩, e1⟩
theorem st_six {P : Nat → Prop} (h0 : P 0) (h1 : P 1) (h2 : P 2) (h3 : P 3) (h4 : P 4) (h5 : P 5) : ∀ j, j < 6 → P j := fun j hj => by
  rcases (show j = 0 ∨ j = 1 ∨ j = 2 ∨ j = 3 ∨ j = 4 ∨ j = 5 by omega) with rfl | rfl | rfl | rfl | rfl | rfl <;> assumption
theorem st_map {α : Type} {big : List Cond} (f : α → Cond) (l : List α) (ps : List Nat) (hp : l.map f = ps.filterMap (fun i => big[i]?)) : ∀ q ∈ l, f q ∈ big := fun _ hq => st_idx _ ps hp _ (List.mem_map_of_mem hq)
theorem st_mI : Cond.initialized RX10 ∈ lw_tbl := (List.mem_of_getElem? (i := 95) (by decide +kernel))
theorem st_m0 : Cond.laysStatic RX10 "LOWEST_SETTINGS" "[I" ∈ lw_tbl := (List.mem_of_getElem? (i := 845) (by decide +kernel))
theorem st_m1 : Cond.laysStatic RX10 "HIGHEST_SETTINGS" "[I" ∈ lw_tbl := (List.mem_of_getElem? (i := 847) (by decide +kernel))
theorem st_m2 : Cond.laysStatic RX10 "FIRST_SETTINGS" "[I" ∈ lw_tbl := (List.mem_of_getElem? (i := 233) (by decide +kernel))
theorem st_a0 : Cond.arrayOf (.static RX10 "LOWEST_SETTINGS" "[I") .int ∈ st_F ∧ Cond.eq (.length (.static RX10 "LOWEST_SETTINGS" "[I")) (.int (Int32.ofNat 6)) ∈ st_F := ⟨(List.mem_of_getElem? (i := 16) (by decide +kernel)), (List.mem_of_getElem? (i := 17) (by decide +kernel))⟩
theorem st_a1 : Cond.arrayOf (.static RX10 "HIGHEST_SETTINGS" "[I") .int ∈ st_F ∧ Cond.eq (.length (.static RX10 "HIGHEST_SETTINGS" "[I")) (.int (Int32.ofNat 6)) ∈ st_F := ⟨(List.mem_of_getElem? (i := 25) (by decide +kernel)), (List.mem_of_getElem? (i := 26) (by decide +kernel))⟩
theorem st_a2 : Cond.arrayOf (.static RX10 "FIRST_SETTINGS" "[I") .int ∈ st_F ∧ Cond.eq (.length (.static RX10 "FIRST_SETTINGS" "[I")) (.int (Int32.ofNat 6)) ∈ st_F ∧ Cond.exactly (.static RX10 "FIRST_SETTINGS" "[I") "[I" ∈ st_F := ⟨(List.mem_of_getElem? (i := 5) (by decide +kernel)), (List.mem_of_getElem? (i := 6) (by decide +kernel)), (List.mem_of_getElem? (i := 894) (by decide +kernel))⟩
theorem st_e0 : ∀ j, j < 6 → Cond.eq (.elem (.static RX10 "LOWEST_SETTINGS" "[I") (.int (Int32.ofNat j))) (.int (gq_low j)) ∈ st_F := st_six (List.mem_of_getElem? (i := 18) (by decide +kernel)) (List.mem_of_getElem? (i := 19) (by decide +kernel)) (List.mem_of_getElem? (i := 20) (by decide +kernel)) (List.mem_of_getElem? (i := 21) (by decide +kernel)) (List.mem_of_getElem? (i := 22) (by decide +kernel)) (List.mem_of_getElem? (i := 23) (by decide +kernel))
theorem st_e1 : ∀ j, j < 6 → Cond.eq (.elem (.static RX10 "HIGHEST_SETTINGS" "[I") (.int (Int32.ofNat j))) (.int (gq_high j)) ∈ st_F := st_six (List.mem_of_getElem? (i := 27) (by decide +kernel)) (List.mem_of_getElem? (i := 28) (by decide +kernel)) (List.mem_of_getElem? (i := 29) (by decide +kernel)) (List.mem_of_getElem? (i := 30) (by decide +kernel)) (List.mem_of_getElem? (i := 31) (by decide +kernel)) (List.mem_of_getElem? (i := 32) (by decide +kernel))
theorem st_e2 : ∀ j, j < 6 → Cond.eq (.elem (.static RX10 "FIRST_SETTINGS" "[I") (.int (Int32.ofNat j))) (.int (gq_first j)) ∈ st_F := st_six (List.mem_of_getElem? (i := 7) (by decide +kernel)) (List.mem_of_getElem? (i := 8) (by decide +kernel)) (List.mem_of_getElem? (i := 9) (by decide +kernel)) (List.mem_of_getElem? (i := 10) (by decide +kernel)) (List.mem_of_getElem? (i := 11) (by decide +kernel)) (List.mem_of_getElem? (i := 12) (by decide +kernel))
theorem st_xw : ∀ w ∈ gq_xw, w ∈ lw_tbl := fun w h => (List.mem_append.mp h).elim (fun h => (List.mem_append.mp h).elim (fun h => (List.mem_append.mp h).elim (st_x0 w) (st_x1 w)) (st_x2 w)) (st_x3 w)
theorem st_msgs : ∀ q ∈ gq_msgs, Cond.exactly (.string RX10 q.1) "java/lang/String" ∈ st_F ∧ Cond.stringRef RX10 q.1 q.2 ∈ lw_tbl := fun q hq => ⟨st_map (fun q : Nat × String => Cond.exactly (.string RX10 q.1) "java/lang/String") gq_msgs [98, 125, 158, 285, 325, 382, 425, 538, 605, 634, 669, 697, 743, 780, 802, 839, 197, 257, 452, 357, 718, 481, 510, 225, 578] (by decide +kernel) q hq, st_map (fun q : Nat × String => Cond.stringRef RX10 q.1 q.2) gq_msgs [707, 755, 874, 937, 945, 959, 993, 1080, 1123, 1139, 1191, 1211, 1243, 1269, 1318, 1326, 896, 928, 1029, 958, 1224, 1051, 1069, 916, 1099] (by decide +kernel) q hq⟩
theorem st_nc : ∀ q ∈ gq_nc, Cond.not (.castable q.1 q.2) ∈ st_F := st_map (fun q : String × String => Cond.not (.castable q.1 q.2)) gq_nc [81, 80, 97, 96, 82, 67, 65, 50, 95, 52, 66, 51] (by decide +kernel)
theorem st_thr : Cond.laysStatic Bundle.tN "UNASSIGNED_STACK" Bundle.steD ∈ lw_tbl ∧ Cond.laysStatic Bundle.tN "SUPPRESSED_SENTINEL" Bundle.listD ∈ lw_tbl ∧ Cond.initialized Bundle.tN ∈ lw_tbl := ⟨(List.mem_of_getElem? (i := 692) (by decide +kernel)), (List.mem_of_getElem? (i := 694) (by decide +kernel)), (List.mem_of_getElem? (i := 107) (by decide +kernel))⟩
theorem st_thf : Cond.isRef (.static Bundle.tN "UNASSIGNED_STACK" Bundle.steD) ∈ st_F ∧ Cond.isRef (.static Bundle.tN "SUPPRESSED_SENTINEL" Bundle.listD) ∈ st_F := ⟨(List.mem_of_getElem? (i := 13) (by decide +kernel)), (List.mem_of_getElem? (i := 14) (by decide +kernel))⟩
theorem st_cs : Cond.laysStatic "java/lang/String" "COMPACT_STRINGS" "Z" ∈ lw_tbl ∧ Cond.initialized "java/lang/String" ∈ lw_tbl ∧ Cond.laysStatic "jdk/internal/util/Preconditions" "SIOOBE_FORMATTER" "Ljava/util/function/BiFunction;" ∈ lw_tbl ∧ Cond.initialized "jdk/internal/util/Preconditions" ∈ lw_tbl := ⟨(List.mem_of_getElem? (i := 1486) (by decide +kernel)), (List.mem_of_getElem? (i := 114) (by decide +kernel)), (List.mem_of_getElem? (i := 1502) (by decide +kernel)), (List.mem_of_getElem? (i := 116) (by decide +kernel))⟩
theorem st_cf : Cond.eq (.static "java/lang/String" "COMPACT_STRINGS" "Z") (.int 1) ∈ st_F ∧ Cond.isRef (.static "jdk/internal/util/Preconditions" "SIOOBE_FORMATTER" "Ljava/util/function/BiFunction;") ∈ st_F := ⟨(List.mem_of_getElem? (i := 33) (by decide +kernel)), (List.mem_of_getElem? (i := 34) (by decide +kernel))⟩
/-- one of the reference's quoted words -/
def st_W (s : State) (b k a v N : Nat) (f : Nat → Int32) : Prop :=
  (Term.string RX11 k).eval #[Value.ref b] s none [] s = some (.ref a) ∧ va_O "java/lang/String" a (fun q : Nat => s.heap.size ≤ q) s s.heap ∧ va_OF "java/lang/String" "coder" "B" (.int 0) a (fun q : Nat => s.heap.size ≤ q) s s.heap ∧ va_OF "java/lang/String" "value" "[B" (.ref v) a (fun q : Nat => s.heap.size ≤ q) s s.heap ∧ va_T .byte v N (fun j => .int (f j)) (fun q : Nat => s.heap.size ≤ q) s s.heap
theorem st_W_of {b : Nat} {s : State} (k N : Nat) (f : Nat → Int32) (hN : N < 2 ^ 31) (hgv : ∀ w ∈ st_F, w.before #[Value.ref b] s = true) (h1 : Cond.exactly (.string RX11 k) "java/lang/String" ∈ st_F) (h2 : Cond.eq (.field (.string RX11 k) "java/lang/String" "coder" "B") (.int 0) ∈ st_F) (h3 : Cond.arrayOf (.field (.string RX11 k) "java/lang/String" "value" "[B") .byte ∈ st_F) (h4 : Cond.eq (.length (.field (.string RX11 k) "java/lang/String" "value" "[B")) (.int (Int32.ofNat N)) ∈ st_F) (h5 : ∀ j, j < N → Cond.eq (.elem (.field (.string RX11 k) "java/lang/String" "value" "[B") (.int (Int32.ofNat j))) (.int (f j)) ∈ st_F) : ∃ a v : Nat, st_W s b k a v N f := by
  obtain ⟨a, c, cA, kA, q1, q2, q3, q4, q5, q6, -⟩ := Cond.exactly_spec (args := #[Value.ref b]) (first := s) (o := none) (s := s) (idx := []) (hgv _ h1)
  obtain ⟨t, ht, hT⟩ := va_Tof (f := fun j => .int (f j)) (A := fun q : Nat => s.heap.size ≤ q) hN (hgv _ h3) (va_eqt (hgv _ h4)) (fun j hj => va_eqt (hgv _ (h5 j hj))) st_out
  exact ⟨a, t, q1, ⟨cA, q3, q5, by rw [q6]; exact q2, st_out a (Array.getElem?_eq_some_iff.mp q3).1⟩, vk_OFof q1 (va_eqt (hgv _ h2)) st_out, vk_OFof q1 ht st_out, hT⟩
theorem va_OF_uniq {o n d : String} {v w : Value} {t : Nat} {A : Nat → Prop} {U : State} {H : Heap} (h1 : va_OF o n d v t A U H) (h2 : va_OF o n d w t A U H) : v = w := by
  obtain ⟨cf, k, i, f, cell, a1, a2, a3, a4, a5, -⟩ := h1
  obtain ⟨cf', k', i', f', cell', b1, b2, b3, b4, b5, -⟩ := h2
  rw [a1] at b1; cases b1
  rw [a3] at b3; cases b3
  rw [a5] at b5; cases b5
  rfl
theorem st_W_ne {s : State} {b k a v N : Nat} {f : Nat → Int32} {k' a' v' N' : Nat} {f' : Nat → Int32} (h : st_W s b k a v N f) (h' : st_W s b k' a' v' N' f') (hd : Int32.ofNat N ≠ Int32.ofNat N' ∨ ∃ j, j < N ∧ j < N' ∧ f j ≠ f' j) : a ≠ a' := by
  intro e
  subst e
  cases va_OF_uniq h.2.2.2.1 h'.2.2.2.1
  obtain ⟨cell, a1, a2, a3, a4, a5, a6, -⟩ := h.2.2.2.2
  obtain ⟨cell', b1, b2, b3, b4, b5, b6, -⟩ := h'.2.2.2.2
  rw [a1] at b1; cases b1
  rcases hd with hd | ⟨j, j1, j2, j3⟩
  · exact hd (a5.symm.trans b5)
  · have e := (a6 j j1).symm.trans (b6 j j2)
    injection e with e
    injection e with e
    exact j3 e
theorem st_w0 : Cond.exactly (.string RX11 160) "java/lang/String" ∈ st_F ∧ Cond.eq (.field (.string RX11 160) "java/lang/String" "coder" "B") (.int 0) ∈ st_F ∧ Cond.arrayOf (.field (.string RX11 160) "java/lang/String" "value" "[B") .byte ∈ st_F ∧ Cond.eq (.length (.field (.string RX11 160) "java/lang/String" "value" "[B")) (.int (Int32.ofNat 3)) ∈ st_F := ⟨(List.mem_of_getElem? (i := 869) (by decide +kernel)), (List.mem_of_getElem? (i := 870) (by decide +kernel)), (List.mem_of_getElem? (i := 871) (by decide +kernel)), (List.mem_of_getElem? (i := 872) (by decide +kernel))⟩
theorem st_w1 : Cond.exactly (.string RX11 181) "java/lang/String" ∈ st_F ∧ Cond.eq (.field (.string RX11 181) "java/lang/String" "coder" "B") (.int 0) ∈ st_F ∧ Cond.arrayOf (.field (.string RX11 181) "java/lang/String" "value" "[B") .byte ∈ st_F ∧ Cond.eq (.length (.field (.string RX11 181) "java/lang/String" "value" "[B")) (.int (Int32.ofNat 4)) ∈ st_F := ⟨(List.mem_of_getElem? (i := 876) (by decide +kernel)), (List.mem_of_getElem? (i := 877) (by decide +kernel)), (List.mem_of_getElem? (i := 878) (by decide +kernel)), (List.mem_of_getElem? (i := 879) (by decide +kernel))⟩
theorem st_w2 : Cond.exactly (.string RX11 187) "java/lang/String" ∈ st_F ∧ Cond.eq (.field (.string RX11 187) "java/lang/String" "coder" "B") (.int 0) ∈ st_F ∧ Cond.arrayOf (.field (.string RX11 187) "java/lang/String" "value" "[B") .byte ∈ st_F ∧ Cond.eq (.length (.field (.string RX11 187) "java/lang/String" "value" "[B")) (.int (Int32.ofNat 3)) ∈ st_F := ⟨(List.mem_of_getElem? (i := 884) (by decide +kernel)), (List.mem_of_getElem? (i := 885) (by decide +kernel)), (List.mem_of_getElem? (i := 886) (by decide +kernel)), (List.mem_of_getElem? (i := 887) (by decide +kernel))⟩
theorem st_v0 : ∀ j, j < 3 → Cond.eq (.elem (.field (.string RX11 160) "java/lang/String" "value" "[B") (.int (Int32.ofNat j))) (.int (([115, 101, 103] : List Int32).getD j 0)) ∈ st_F := fun j hj => by
  rcases (show j = 0 ∨ j = 1 ∨ j = 2 by omega) with rfl | rfl | rfl
  · exact (List.mem_of_getElem? (i := 873) (by decide +kernel))
  · exact (List.mem_of_getElem? (i := 874) (by decide +kernel))
  · exact (List.mem_of_getElem? (i := 875) (by decide +kernel))
theorem st_v1 : ∀ j, j < 4 → Cond.eq (.elem (.field (.string RX11 181) "java/lang/String" "value" "[B") (.int (Int32.ofNat j))) (.int (([115, 108, 111, 116] : List Int32).getD j 0)) ∈ st_F := fun j hj => by
  rcases (show j = 0 ∨ j = 1 ∨ j = 2 ∨ j = 3 by omega) with rfl | rfl | rfl | rfl
  · exact (List.mem_of_getElem? (i := 880) (by decide +kernel))
  · exact (List.mem_of_getElem? (i := 881) (by decide +kernel))
  · exact (List.mem_of_getElem? (i := 882) (by decide +kernel))
  · exact (List.mem_of_getElem? (i := 883) (by decide +kernel))
theorem st_v2 : ∀ j, j < 3 → Cond.eq (.elem (.field (.string RX11 187) "java/lang/String" "value" "[B") (.int (Int32.ofNat j))) (.int (([115, 101, 116] : List Int32).getD j 0)) ∈ st_F := fun j hj => by
  rcases (show j = 0 ∨ j = 1 ∨ j = 2 by omega) with rfl | rfl | rfl
  · exact (List.mem_of_getElem? (i := 888) (by decide +kernel))
  · exact (List.mem_of_getElem? (i := 889) (by decide +kernel))
  · exact (List.mem_of_getElem? (i := 890) (by decide +kernel))
theorem st_wr : Cond.stringRef RX11 160 "seg" ∈ lw_tbl ∧ Cond.stringRef RX11 181 "slot" ∈ lw_tbl ∧ Cond.stringRef RX11 187 "set" ∈ lw_tbl := ⟨(List.mem_of_getElem? (i := 1472) (by decide +kernel)), (List.mem_of_getElem? (i := 1552) (by decide +kernel)), (List.mem_of_getElem? (i := 1560) (by decide +kernel))⟩
set_option maxHeartbeats 4000000 in
theorem st_Z {b : Nat} {s : State} (hts : ∀ w ∈ lw_tbl, w.before #[Value.ref b] s = true) (hgv : ∀ w ∈ st_F, w.before #[Value.ref b] s = true) : ∃ z : Nat → Nat, gq_Z z (fun q : Nat => s.heap.size ≤ q) s s.heap ∧ ∃ scr : Cell, s.heap[z 2]? = some scr ∧ s.vm.findClass "[I" = some scr.cls := by
  obtain ⟨t0, e0, -⟩ := st_S1 "LOWEST_SETTINGS" gq_low hts hgv ⟨st_m0, st_mI⟩ st_a0.1 st_a0.2 st_e0
  obtain ⟨t1, e1, -⟩ := st_S1 "HIGHEST_SETTINGS" gq_high hts hgv ⟨st_m1, st_mI⟩ st_a1.1 st_a1.2 st_e1
  obtain ⟨t2, e2, ev⟩ := st_S1 "FIRST_SETTINGS" gq_first hts hgv ⟨st_m2, st_mI⟩ st_a2.1 st_a2.2.1 st_e2
  obtain ⟨a0, v0, w0⟩ := st_W_of 160 3 (fun j => ([115, 101, 103] : List Int32).getD j 0) (by decide) hgv st_w0.1 st_w0.2.1 st_w0.2.2.1 st_w0.2.2.2 st_v0
  obtain ⟨a1, v1, w1⟩ := st_W_of 181 4 (fun j => ([115, 108, 111, 116] : List Int32).getD j 0) (by decide) hgv st_w1.1 st_w1.2.1 st_w1.2.2.1 st_w1.2.2.2 st_v1
  obtain ⟨a2, v2, w2⟩ := st_W_of 187 3 (fun j => ([115, 101, 116] : List Int32).getD j 0) (by decide) hgv st_w2.1 st_w2.2.1 st_w2.2.2.1 st_w2.2.2.2 st_v2
  have n01 : a0 ≠ a1 := st_W_ne w0 w1 (Or.inl (by decide))
  have n02 : a0 ≠ a2 := st_W_ne w0 w2 (Or.inr ⟨2, by decide, by decide, by decide⟩)
  have n12 : a1 ≠ a2 := st_W_ne w1 w2 (Or.inl (by decide))
  have hx : ∀ w ∈ gq_xw, w.before #[] s = true := fun w hw => va_tabs (gq_ok_on (gq_xw_good w hw)) rfl (hts w (st_xw w hw))
  have hm : ∀ q ∈ gq_msgs, ∃ a : Nat, vk_R RX10 q.1 q.2 a s := fun q hq => by
    obtain ⟨h1, h2⟩ := st_msgs q hq
    obtain ⟨a, -, -, -, q1, -⟩ := Cond.exactly_spec (args := #[Value.ref b]) (first := s) (o := none) (s := s) (idx := []) (hgv _ h1)
    exact ⟨a, vk_R.of (hts _ h2) q1⟩
  refine ⟨fun k => match k with | 0 => t0 | 1 => t1 | 2 => t2 | 3 => a0 | 4 => a1 | 5 => a2 | 6 => v0 | 7 => v1 | _ => v2, ⟨e0, e1, e2, ⟨vx_Zqof (hts _ st_thr.1) (hts _ st_thr.2.2) (hgv _ st_thf.1) st_out, vx_Zqof (hts _ st_thr.2.1) (hts _ st_thr.2.2) (hgv _ st_thf.2) st_out⟩, ⟨hx, hm, vk_R.of (hts _ st_wr.1) w0.1, vk_R.of (hts _ st_wr.2.1) w1.1, vk_R.of (hts _ st_wr.2.2) w2.1, fun q hq => va_Nc.of (hgv _ (st_nc q hq))⟩, ⟨⟨fun i hi => ?_, fun i j hi hj hij => ?_⟩, va_Zof (hts _ st_cs.1) (hts _ st_cs.2.1) (va_eqt (hgv _ st_cf.1)) st_out, va_Zqof (hts _ st_cs.2.2.1) (hts _ st_cs.2.2.2) (hgv _ st_cf.2) st_out⟩⟩, ?_⟩
  · rcases (show i = 0 ∨ i = 1 ∨ i = 2 by omega) with rfl | rfl | rfl
    · exact ⟨w0.2.1, w0.2.2.1, w0.2.2.2.1, w0.2.2.2.2⟩
    · exact ⟨w1.2.1, w1.2.2.1, w1.2.2.2.1, w1.2.2.2.2⟩
    · exact ⟨w2.2.1, w2.2.2.1, w2.2.2.2.1, w2.2.2.2.2⟩
  · rcases (show i = 0 ∨ i = 1 ∨ i = 2 by omega) with rfl | rfl | rfl <;> rcases (show j = 0 ∨ j = 1 ∨ j = 2 by omega) with rfl | rfl | rfl <;> first | rfl | exact absurd hij n01 | exact absurd hij n02 | exact absurd hij n12 | exact absurd hij.symm n01 | exact absurd hij.symm n02 | exact absurd hij.symm n12
  · obtain ⟨a, c, cell, k, q1, q2, q3, q4, q5, q6, -⟩ := Cond.exactly_spec (args := #[Value.ref b]) (first := s) (o := none) (s := s) (idx := []) (hgv _ st_a2.2.2)
    cases ev.symm.trans q1
    exact ⟨cell, q3, by rw [q6]; exact q2⟩
theorem st_in : Cond.instantiable RX0 15 ∈ lw_tbl ∧ Cond.instantiable RX1 3 ∈ lw_tbl ∧ Cond.instantiable RX2 6 ∈ lw_tbl ∧ Cond.instantiable RX3 2 ∈ lw_tbl ∧ Cond.instantiable RX4 6 ∈ lw_tbl ∧ Cond.instantiable RX5 7 ∈ lw_tbl ∧ Cond.instantiable RX6 4 ∈ lw_tbl ∧ Cond.instantiable RX7 4 ∈ lw_tbl ∧ Cond.instantiable RX8 2 ∈ lw_tbl ∧ Cond.instantiable RX9 8 ∈ lw_tbl ∧ Cond.instantiable RX10 8 ∈ lw_tbl ∧ Cond.instantiable RX11 27 ∈ lw_tbl := ⟨(List.mem_of_getElem? (i := 321) (by decide +kernel)), (List.mem_of_getElem? (i := 267) (by decide +kernel)), (List.mem_of_getElem? (i := 205) (by decide +kernel)), (List.mem_of_getElem? (i := 423) (by decide +kernel)), (List.mem_of_getElem? (i := 381) (by decide +kernel)), (List.mem_of_getElem? (i := 287) (by decide +kernel)), (List.mem_of_getElem? (i := 130) (by decide +kernel)), (List.mem_of_getElem? (i := 176) (by decide +kernel)), (List.mem_of_getElem? (i := 409) (by decide +kernel)), (List.mem_of_getElem? (i := 136) (by decide +kernel)), (List.mem_of_getElem? (i := 122) (by decide +kernel)), (List.mem_of_getElem? (i := 1332) (by decide +kernel))⟩
set_option maxHeartbeats 4000000 in
theorem st_D {b : Nat} {s : State} (hts : ∀ w ∈ lw_tbl, w.before #[Value.ref b] s = true) : ∃ D : va_G, ∀ (k : Nat) (q : vw_C), gq_cl[k]? = some q → u_Kn s q.1 q.2.1 q.2.2 (D.1 k) (D.2 k) := by
  obtain ⟨c0, i0, h0⟩ := u_known (C := RX0) (T := TX0) (N := 15) (n := 15) hts inX0 (hts _ st_in.1)
  obtain ⟨c1, i1, h1⟩ := u_known (C := RX1) (T := TX1) (N := 3) (n := 3) hts inX1 (hts _ st_in.2.1)
  obtain ⟨c2, i2, h2⟩ := u_known (C := RX2) (T := TX2) (N := 6) (n := 6) hts inX2 (hts _ st_in.2.2.1)
  obtain ⟨c3, i3, h3⟩ := u_known (C := RX3) (T := TX3) (N := 2) (n := 2) hts inX3 (hts _ st_in.2.2.2.1)
  obtain ⟨c4, i4, h4⟩ := u_known (C := RX4) (T := TX4) (N := 6) (n := 6) hts inX4 (hts _ st_in.2.2.2.2.1)
  obtain ⟨c5, i5, h5⟩ := u_known (C := RX5) (T := TX5) (N := 7) (n := 7) hts inX5 (hts _ st_in.2.2.2.2.2.1)
  obtain ⟨c6, i6, h6⟩ := u_known (C := RX6) (T := TX6) (N := 4) (n := 4) hts inX6 (hts _ st_in.2.2.2.2.2.2.1)
  obtain ⟨c7, i7, h7⟩ := u_known (C := RX7) (T := TX7) (N := 4) (n := 4) hts inX7 (hts _ st_in.2.2.2.2.2.2.2.1)
  obtain ⟨c8, i8, h8⟩ := u_known (C := RX8) (T := TX8) (N := 2) (n := 2) hts inX8 (hts _ st_in.2.2.2.2.2.2.2.2.1)
  obtain ⟨c9, i9, h9⟩ := u_known (C := RX9) (T := TX9) (N := 8) (n := 8) hts inX9 (hts _ st_in.2.2.2.2.2.2.2.2.2.1)
  obtain ⟨c10, i10, h10⟩ := u_known (C := RX10) (T := TX10) (N := 8) (n := 8) hts inX10 (hts _ st_in.2.2.2.2.2.2.2.2.2.2.1)
  obtain ⟨c11, i11, h11⟩ := u_known (C := RX11) (T := TX11) (N := 27) (n := 27) hts inX11 (hts _ st_in.2.2.2.2.2.2.2.2.2.2.2)
  refine ⟨(fun k => match k with | 0 => c0 | 1 => c1 | 2 => c2 | 3 => c3 | 4 => c4 | 5 => c5 | 6 => c6 | 7 => c7 | 8 => c8 | 9 => c9 | 10 => c10 | _ => c11, fun k => match k with | 0 => i0 | 1 => i1 | 2 => i2 | 3 => i3 | 4 => i4 | 5 => i5 | 6 => i6 | 7 => i7 | 8 => i8 | 9 => i9 | 10 => i10 | _ => i11), fun k q hq => ?_⟩
  match k, hq with
  | 0, hq => cases hq; exact h0
  | 1, hq => cases hq; exact h1
  | 2, hq => cases hq; exact h2
  | 3, hq => cases hq; exact h3
  | 4, hq => cases hq; exact h4
  | 5, hq => cases hq; exact h5
  | 6, hq => cases hq; exact h6
  | 7, hq => cases hq; exact h7
  | 8, hq => cases hq; exact h8
  | 9, hq => cases hq; exact h9
  | 10, hq => cases hq; exact h10
  | 11, hq => cases hq; exact h11
  | k + 12, hq => simp at hq
theorem st_nw : ∀ q ∈ gq_nl, Cond.methodLinkNest q.1 q.2.1 q.2.2 RX10 ∈ lw_tbl := st_map (fun q : String × Nat × MethodName => Cond.methodLinkNest q.1 q.2.1 q.2.2 RX10) gq_nl [131, 137, 177, 206, 274, 288, 293, 322, 382, 410, 424] (by decide +kernel)
theorem st_nk : Cond.methodLinkNest RX0 102 yX10_percentAlike RX10 ∈ lw_tbl ∧ Cond.methodLinkNest RX8 57 yX10_percentAlike RX10 ∈ lw_tbl ∧ Cond.fieldLinkNest RX5 126 RX10 "LOWEST_SETTINGS" "[I" RX10 ∈ lw_tbl ∧ Cond.fieldLinkNest RX5 129 RX10 "HIGHEST_SETTINGS" "[I" RX10 ∈ lw_tbl ∧ Cond.fieldLinkNest RX6 32 RX10 "FIRST_SETTINGS" "[I" RX10 ∈ lw_tbl := ⟨(List.mem_of_getElem? (i := 524) (by decide +kernel)), (List.mem_of_getElem? (i := 1175) (by decide +kernel)), (List.mem_of_getElem? (i := 844) (by decide +kernel)), (List.mem_of_getElem? (i := 846) (by decide +kernel)), (List.mem_of_getElem? (i := 232) (by decide +kernel))⟩
theorem st_ar : Cond.arrayClass .int ∈ lw_tbl ∧ Cond.arrayClass .long ∈ lw_tbl ∧ Cond.arrayClass .boolean ∈ lw_tbl ∧ Cond.arrayOver (.object RX6) ∈ lw_tbl ∧ Cond.castable "[I" "java/lang/Cloneable" ∈ lw_tbl := ⟨(List.mem_of_getElem? (i := 173) (by decide +kernel)), (List.mem_of_getElem? (i := 174) (by decide +kernel)), (List.mem_of_getElem? (i := 407) (by decide +kernel)), (List.mem_of_getElem? (i := 273) (by decide +kernel)), (List.mem_of_getElem? (i := 239) (by decide +kernel))⟩
theorem st_A {b : Nat} {s : State} {ty : FieldType} (h : (Cond.arrayClass ty).before #[Value.ref b] s = true) : ∃ c : ClassId, ArrOfT s c ty ∧ s.vm.findClass ("[" ++ ty.toString) = some c := by
  obtain ⟨c, k, comp, h1, h2, h3⟩ := Cond.arrayClass_spec (args := #[Value.ref b]) (first := s) (o := none) (s := s) (idx := []) h
  exact ⟨c, fun n z => ⟨fun k h => (by cases h), k, h2, comp, h3⟩, h1⟩
set_option maxHeartbeats 4000000 in
theorem st_K {b : Nat} {s : State} (hts : ∀ w ∈ lw_tbl, w.before #[Value.ref b] s = true) : ∃ (D : va_G) (cI cJ cZ cO : ClassId), gq_K D (gq_ty cI cJ cZ cO) s := by
  obtain ⟨D, hD⟩ := st_D hts
  obtain ⟨cI, i1, i2⟩ := st_A (ty := .int) (hts _ st_ar.1)
  obtain ⟨cJ, j1, j2⟩ := st_A (ty := .long) (hts _ st_ar.2.1)
  obtain ⟨cZ, z1, z2⟩ := st_A (ty := .boolean) (hts _ st_ar.2.2.1)
  obtain ⟨comp, cO, k, h1, h2, h3, h4, h5⟩ := Cond.arrayOver_spec (args := #[Value.ref b]) (first := s) (o := none) (s := s) (idx := []) (hts _ st_ar.2.2.2.1)
  refine ⟨D, cI, cJ, cZ, cO, ⟨hD, fun t q hq => ?_⟩, va_Nw.of rfl (hts _ st_nk.1), va_Nw.of rfl (hts _ st_nk.2.1), va_Nw.of rfl (hts _ st_nk.2.2.1), va_Nw.of rfl (hts _ st_nk.2.2.2.1), va_Nw.of rfl (hts _ st_nk.2.2.2.2)⟩
  match t, hq with
  | 0, hq => cases hq; exact ⟨i1, i2⟩
  | 1, hq => cases hq; exact ⟨j1, j2⟩
  | 2, hq => cases hq; exact ⟨z1, z2⟩
  | 3, hq => cases hq; exact ⟨fun n z => ⟨fun k h => (by cases h), k, h3, comp, h4⟩, k, comp, h3, h4, h1, h5⟩
  | t + 4, hq => simp at hq
theorem st_N {b : Nat} {s : State} {z : Nat → Nat} {cI : ClassId} (hts : ∀ w ∈ lw_tbl, w.before #[Value.ref b] s = true) (h : ∃ scr : Cell, s.heap[z 2]? = some scr ∧ scr.cls = cI) : gq_N z cI s :=
  ⟨fun q hq => va_Nw.of rfl (hts _ (st_nw q hq)), va_Nw.of rfl (hts _ st_ar.2.2.2.2), va_AO.of (hts _ st_ar.2.2.2.1), h⟩
/-! ===== the first world ===== -/
theorem gq_prmP {D : va_G} {cl : List vw_C} {U V : va_W} {H : Heap} (h : U.Perm V) (hp : va_P D cl U H) : va_P D cl V H := fun k q hk => by
  obtain ⟨i, hi⟩ := List.getElem?_of_mem (h.mem_iff.mpr (List.mem_of_getElem? hk))
  exact hp i q hi
theorem gq_pw : ∀ U : va_W, (∀ (i j : Nat) (x y : Nat × va_E), U[i]? = some x → U[j]? = some y → x.1 = y.1 → i = j) ↔ U.Pairwise (fun x y => x.1 ≠ y.1) := by
  intro U
  induction U with
  | nil => exact ⟨fun _ => List.Pairwise.nil, fun _ i j x y h => by simp at h⟩
  | cons u U ih =>
    rw [List.pairwise_cons, ← ih]
    constructor
    · intro h
      refine ⟨fun y hy e => ?_, fun i j x y hx hy e => ?_⟩
      · obtain ⟨j, hj⟩ := List.getElem?_of_mem hy
        have := h 0 (j + 1) u y (by simp) (by simpa using hj) e
        omega
      · have := h (i + 1) (j + 1) x y (by simpa using hx) (by simpa using hy) e
        omega
    · rintro ⟨h1, h2⟩ i j x y hx hy e
      match i, j, hx, hy with
      | 0, 0, _, _ => rfl
      | 0, j + 1, hx, hy =>
        have hx' : u = x := by simpa using hx
        subst hx'
        exact absurd e (h1 y (List.mem_of_getElem? (by simpa using hy)))
      | i + 1, 0, hx, hy =>
        have hy' : u = y := by simpa using hy
        subst hy'
        exact absurd e.symm (h1 x (List.mem_of_getElem? (by simpa using hx)))
      | i + 1, j + 1, hx, hy => rw [h2 i j x y (by simpa using hx) (by simpa using hy) e]
theorem gq_pwP {U V : va_W} (h : U.Perm V) : U.Pairwise (fun x y => x.1 ≠ y.1) → V.Pairwise (fun x y => x.1 ≠ y.1) := by
  induction h with
  | nil => exact id
  | cons x h ih =>
    intro hp
    rw [List.pairwise_cons] at hp ⊢
    exact ⟨fun y hy => hp.1 y (h.mem_iff.mpr hy), ih hp.2⟩
  | swap x y l =>
    intro hp
    simp only [List.pairwise_cons, List.mem_cons] at hp ⊢
    obtain ⟨h1, h2, h3⟩ := hp
    refine ⟨fun a ha => ?_, fun a ha => h1 a (Or.inr ha), h3⟩
    rcases ha with rfl | ha
    · exact fun e => h1 x (Or.inl rfl) e.symm
    · exact h2 a ha
  | trans _ _ ih1 ih2 => exact fun hp => ih2 (ih1 hp)
theorem gq_prmD {A : Nat → Prop} {U V : va_W} (h : U.Perm V) (hd : va_D A U) : va_D A V :=
  ⟨(gq_pw V).mpr (gq_pwP h ((gq_pw U).mp hd.1)), fun k q hq => by
    obtain ⟨i, hi⟩ := List.getElem?_of_mem (h.mem_iff.mpr (List.mem_of_getElem? hq))
    exact hd.2 i q hi⟩
theorem gq_prm {p : Program} {l : Launch} {e : Env} {R : Room} {s : State} {m : MethodId} {args : Array Value} {below : List Frame} {meth : Method} {c : Code} {D : va_G} {A : Nat → Prop} {nL : Nat} {Q : State → Prop} {k n pc : Nat} {lv : List (Nat × Value)} {st : List Value} {ws : va_W} (ws2 : va_W) (h : ws.Perm ws2) (kk : Gx p l e R s m args below meth c D A nL Q k n pc lv st ws2) : Gx p l e R s m args below meth c D A nL Q k n pc lv st ws :=
  fun H locs ls hP hD hS hl => kk H locs ls (gq_prmP h hP) (gq_prmD h hD) hS hl
theorem st_prm (T S Hd B R M O : va_W) : (((T ++ (S ++ ((Hd ++ B) ++ R))) ++ M) ++ O).Perm (M ++ ((O ++ (T ++ (S ++ (Hd ++ R)))) ++ B)) := by
  have h1 : ((Hd ++ B) ++ R).Perm ((Hd ++ R) ++ B) := by
    rw [List.append_assoc, List.append_assoc]
    exact List.Perm.append_left Hd List.perm_append_comm
  have h2 : (T ++ (S ++ ((Hd ++ B) ++ R))).Perm ((T ++ (S ++ (Hd ++ R))) ++ B) := by
    have h3 := List.Perm.append_left T (List.Perm.append_left S h1)
    simpa [List.append_assoc] using h3
  have h4 : (((T ++ (S ++ ((Hd ++ B) ++ R))) ++ M) ++ O).Perm (M ++ (O ++ (T ++ (S ++ ((Hd ++ B) ++ R))))) := by
    rw [List.append_assoc, ← List.append_assoc M O]
    exact List.perm_append_comm
  refine h4.trans (List.Perm.append_left M ?_)
  have h5 := List.Perm.append_left O h2
  simpa [List.append_assoc] using h5
