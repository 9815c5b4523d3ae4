/-! ===== the start ===== -/
theorem rel0 {ar : Nat → Int64} (h : MR A0f ar) : REL 0 0 (fun _ => 0) (fun _ => 0) (fun _ => 0) (fun _ => 0) (fun _ => 0) (fun _ => 0) 0 (fun _ => 0) (fun _ => 0) (fun _ => 0) 0 0 0 (fun _ => 0) (fun _ => 0) (fun _ => 0) gq_first 1 0 0 0 0 0 (fun _ => 0) (fun _ => 0) (fun _ => 0) (fun _ => 0) 0 0 (fun _ => 0) (fun _ => 0) (fun _ => 0) (fun _ => 0) 0 0 (fun _ => gq_S0) 0 (fun _ => 0) (-1) 0 (fun _ => 0) ar 0 (fun _ => 0) 0 (fun _ => 0) (-1) 0 (fun _ => 0) (-1) (-1) := by
  have z6 : A0f 6 = 0 := A0_z (by omega)
  have z7 : A0f 7 = 0 := A0_z (by omega)
  have z8 : A0f 8 = 0 := A0_z (by omega)
  have z409 : A0f 409 = 0 := A0_z (by omega)
  refine ⟨A0f, fun _ => A0f, 0, fun _ => 0, 0, [], ⟨A0_VP.1, ⟨by rw [z6, nI_0], by rw [z7, nI_0], fun s hs => by rw [z6] at hs; omega, fun w hw => by rw [z7] at hw; omega⟩, ⟨by rw [z8, nI_0], fun i hi => by rw [z8] at hi; omega⟩, ⟨by rw [z409, nI_0], fun h9 => by rw [z409] at h9; omega⟩, fun k hk => ?_⟩, Or.inl (by decide +kernel), ⟨by omega, nI_0.symm, 0, by omega, nI_0.symm, fun i hi => by omega⟩, ⟨nI_0.symm, by omega, fun i hi => by omega⟩, ⟨⟨nI_0.symm, fun i hi => absurd hi (Nat.not_lt_zero i)⟩, Nat.zero_le _⟩, h, ⟨nI_0.symm, fun i hi => by omega⟩, ⟨nI_0.symm, by omega, fun i hi => by omega⟩, rfl, ⟨nI_0.symm, fun i hi => absurd hi (Nat.not_lt_zero i)⟩, by decide +kernel, by decide +kernel⟩
  rcases (show k = 0 ∨ k = 1 ∨ k = 2 ∨ k = 3 ∨ k = 4 ∨ k = 5 by omega) with rfl | rfl | rfl | rfl | rfl | rfl <;> decide +kernel
set_option maxHeartbeats 16000000 in
set_option maxRecDepth 100000 in
theorem whole_start {p : Program} {e : Env} {s : State} {m : MethodId} {below : List Frame} {meth : Method} {c : Code} (l : Launch) (hflags : l.flags = flags0) {b L : Nat} {xs : Nat → Int32} (hL : L ≤ 3072) (C0 : lw_At p s m meth c b L xs) : W p l e room_1 s m #[Value.ref b] below meth c s.heap [] 0 0 (lw_Z below #[Value.ref b] s) (entryFrame m ([Value.ref b] : List Value).toArray 7) := by
  obtain ⟨hx, hb, hr, hml, hown, hts, hX, hbl, hlocks, hgv0⟩ := id C0
  have hgv : ∀ w ∈ st_F, w.before #[Value.ref b] s = true := flat_of_before _ hgv0
  obtain ⟨z, hZ, scr, hs1, hs2⟩ := st_Z hts hgv
  obtain ⟨D, cI, cJ, cZ, cO, hK⟩ := st_K hts
  have hcI : scr.cls = cI := Option.some.inj (hs2.symm.trans (hK.1.2 0 (cI, .int) rfl).2)
  have hN : gq_N z cI s := st_N hts ⟨scr, hs1, hcI⟩
  have hlS := hlS_of hflags
  have hC0 : ∀ k n : Nat, k ≤ 601024 → n ≤ 7293034 → Gc p room_1 s m #[Value.ref b] meth c D (gq_ty cI cJ cZ cO) (fun q : Nat => s.heap.size ≤ q) 7 cL_law RL lw_tbl ret k n z := fun k n h1 h2 => ⟨hx, hb, hml, hown, hts, hK, fun _ h => h, ⟨h1, h2⟩, hr, hlocks, hZ⟩
  have hl := lv_entry ([.ref b]) (n := 7) (Nat.le_of_ble_eq_true rfl)
  rw [lg_entry_eq]
  suffices h9 : Gx p l e room_1 s m #[Value.ref b] below meth c D (fun q : Nat => s.heap.size ≤ q) 7 (lw_Z below #[Value.ref b] s) 0 0 0 [(0, .ref b)] [] [] from h9 s.heap [] _ (fun k q h => by simp at h) ⟨fun i j p q h => by simp at h, fun k q h => by simp at h⟩ va_S.rf hl
  have hC := hC0 0 0 (by omega) (by omega)
  refine gq_newC hC hN (ci := 10) tyX10 inX10 tyX10_ok rfl (fun j hj => by rcases (show j = 0 ∨ j = 1 ∨ j = 2 ∨ j = 3 ∨ j = 4 ∨ j = 5 ∨ j = 6 ∨ j = 7 by omega) with rfl | rfl | rfl | rfl | rfl | rfl | rfl | rfl <;> rfl) ⟨(List.mem_of_getElem? (i := 121) (by decide +kernel)), (List.mem_of_getElem? (i := 122) (by decide +kernel)), (List.mem_of_getElem? (i := 95) (by decide +kernel))⟩ (fun q9 => kc_X10 l D cI cJ cZ cO z q9) gL_law_X10_init rfl ⟨rfl, rfl⟩ ⟨rfl, rfl⟩ (by decide +kernel) (List.mem_of_getElem? (i := 124) (by decide +kernel)) (Or.inr (List.mem_of_getElem? (i := 123) (by decide +kernel))) ⟨Nat.le_of_ble_eq_true rfl, Nat.le_of_ble_eq_true rfl⟩ ⟨Nat.le_of_ble_eq_true rfl, Nat.le_of_ble_eq_true rfl⟩ (Nat.le_of_ble_eq_true rfl) dL_law_0 dL_law_3 dL_law_4 (fun x0 W1 h1 => ?_)
  have hC := hC0 196 8796 (by omega) (by omega)
  refine gq_astore_n hC [(1, .ref x0), (0, .ref b)] dL_law_7 rfl (by decide) rfl ?_
  refine gq_newC hC hN (ci := 11) tyX11 inX11 tyX11_ok rfl (fun j hj => by rcases (show j = 0 ∨ j = 1 ∨ j = 2 ∨ j = 3 ∨ j = 4 ∨ j = 5 ∨ j = 6 ∨ j = 7 ∨ j = 8 ∨ j = 9 ∨ j = 10 ∨ j = 11 ∨ j = 12 ∨ j = 13 ∨ j = 14 ∨ j = 15 ∨ j = 16 ∨ j = 17 ∨ j = 18 ∨ j = 19 ∨ j = 20 ∨ j = 21 ∨ j = 22 ∨ j = 23 ∨ j = 24 ∨ j = 25 ∨ j = 26 by omega) with rfl | rfl | rfl | rfl | rfl | rfl | rfl | rfl | rfl | rfl | rfl | rfl | rfl | rfl | rfl | rfl | rfl | rfl | rfl | rfl | rfl | rfl | rfl | rfl | rfl | rfl | rfl <;> rfl) ⟨(List.mem_of_getElem? (i := 1331) (by decide +kernel)), (List.mem_of_getElem? (i := 1332) (by decide +kernel)), (List.mem_of_getElem? (i := 106) (by decide +kernel))⟩ (fun q9 => kc_X11 l D cI cJ cZ cO z q9) gL_law_X11_init rfl ⟨rfl, rfl⟩ ⟨rfl, rfl⟩ (by decide +kernel) (List.mem_of_getElem? (i := 1334) (by decide +kernel)) (Or.inr (List.mem_of_getElem? (i := 1333) (by decide +kernel))) ⟨Nat.le_of_ble_eq_true rfl, Nat.le_of_ble_eq_true rfl⟩ ⟨Nat.le_of_ble_eq_true rfl, Nat.le_of_ble_eq_true rfl⟩ (Nat.le_of_ble_eq_true rfl) dL_law_8 dL_law_11 dL_law_12 (fun x1 W2 h2 => ?_)
  have hC := hC0 210 16274 (by omega) (by omega)
  refine gq_astore_n hC [(2, .ref x1), (1, .ref x0), (0, .ref b)] dL_law_15 rfl (by decide) rfl ?_
  refine gq_iconst hC 1 dL_law_16 (by decide) ?_
  refine gq_newJ hC (N := 1) (t0 := 1) (List.mem_of_getElem? (i := 174) (by decide +kernel)) rfl (by decide) (by decide) (by decide) ⟨Nat.le_of_ble_eq_true rfl, Nat.le_of_ble_eq_true rfl⟩ dL_law_17 (fun x2 => ?_)
  have hC := hC0 211 16275 (by omega) (by omega)
  refine gq_astore_n hC [(3, .ref x2), (2, .ref x1), (1, .ref x0), (0, .ref b)] dL_law_19 rfl (by decide) rfl ?_
  refine gq_iconst hC 0 dL_law_20 (by decide) ?_
  refine gq_istore hC [(4, .int 0), (3, .ref x2), (2, .ref x1), (1, .ref x0), (0, .ref b)] dL_law_21 (by decide) rfl ?_
  obtain ⟨a1, y2, y3, y4, y5, y6, y7, V2, V3, V4, V5, V6, V7, p2, p3, p4, p5, p6, p7, rfl⟩ := h1
  obtain ⟨y2a, hh, rfl⟩ := p2
  obtain ⟨d, y3t, rfl⟩ := p3
  obtain ⟨u0q1, u0q2, u0q3, u0q4, u0q5, u0q6, u0q7, u0q8, u0q9, u0q10, rfl⟩ := p4
  obtain ⟨u4q1, u4q2, u4q3, u4q4, rfl⟩ := p5
  obtain ⟨u8q1, u8q2, rfl⟩ := p6
  obtain ⟨u3q1, rfl⟩ := p7
  obtain ⟨mq1, mq2, mq3, mq4, mq5, mq6, mq7, mq8, mq9, mq10, mq11, mq12, mq13, fr, ar, hmr, rfl⟩ := h2
  refine gq_prm ([(x1, .inr (11, [.ref mq1, .ref mq2, .ref mq3, .int 0, .int 0, .ref mq4, .int 0, .int 0, .int 0, .int 0, .int 0, .int 0, .int 0, .int (-1), .long 0, .ref mq5, .ref mq6, .ref mq7, .ref mq8, .ref mq9, .int (-1), .int (-1), .ref mq10, .ref mq11, .ref mq12, .ref mq13, .int 0])), (mq1, .inl (cJ, 499, .inr (.inl ar))), (mq2, .inl (cJ, 499, .inr (.inl fr))), (mq3, .inl (cJ, 3992, .inr (.inl (fun _ => 0)))), (mq4, .inl (cI, 900, .inl (fun _ => 0))), (mq5, .inl (cI, 33, .inl (fun _ => 0))), (mq6, .inl (cI, 33, .inl (fun _ => 0))), (mq7, .inl (cI, 33, .inl (fun _ => 0))), (mq8, .inl (cI, 32, .inl (fun _ => 0))), (mq9, .inl (cJ, 33, .inr (.inl (fun _ => 0)))), (mq10, .inl (cI, 160, .inl (fun _ => 0))), (mq11, .inl (cI, 5, .inl (fun _ => 0))), (mq12, .inl (cZ, 32, .inl (fun _ => 0))), (mq13, .inl (cI, 1200, .inl (fun _ => 0)))] ++ (([(x2, .inl (cJ, 1, .inr (.inl (fun _ => 0))))] ++ ([(x0, .inr (10, [.ref (a1 0), .ref y2, .ref y3, .ref y4, .ref y5, .ref y6, .ref y7, .int 1]))] ++ (gq_shw cI cJ a1 gq_S0 ++ ([(y2, .inr (1, [.int 0, .int 0, .ref y2a])), (y2a, .inl (cO, 8, .inr (.inr (.inr (.inr (fun j => some (hh (17 * j))))))))] ++ (((y3, .inr (5, [.int 0, .int 0, .int (-1), .ref (d 0), .ref y3t, .int 0, .int 0])) :: (gq_shw cI cJ d gq_S0 ++ [(y3t, .inl (cI, 900, .inl (fun _ => 0)))])) ++ ([(y4, .inr (0, [.int 0, .int 0, .ref u0q1, .ref u0q2, .ref u0q3, .ref u0q4, .ref u0q5, .ref u0q6, .ref u0q7, .ref u0q8, .ref u0q9, .ref u0q10, .int 0, .int 0, .int 0])), (u0q1, .inl (cI, 31, .inl (fun _ => 0))), (u0q2, .inl (cI, 32, .inl (fun _ => 0))), (u0q3, .inl (cI, 32, .inl (fun _ => 0))), (u0q4, .inl (cI, 32, .inl (fun _ => 0))), (u0q5, .inl (cI, 32, .inl (fun _ => 0))), (u0q6, .inl (cI, 32, .inl (fun _ => 0))), (u0q7, .inl (cI, 33, .inl (fun _ => 0))), (u0q8, .inl (cJ, 33, .inr (.inl (fun _ => 0)))), (u0q9, .inl (cI, 24, .inl (fun _ => 0))), (u0q10, .inl (cI, 24, .inl (fun _ => 0)))] ++ ([(y5, .inr (4, [.int 0, .ref u4q1, .ref u4q2, .ref u4q3, .ref u4q4, .int 0])), (u4q1, .inl (cI, 5, .inl (fun _ => 0))), (u4q2, .inl (cI, 155, .inl (fun _ => 0))), (u4q3, .inl (cI, 31, .inl (fun _ => 0))), (u4q4, .inl (cZ, 31, .inl (fun _ => 0)))] ++ ([(y6, .inr (8, [.ref u8q1, .ref u8q2])), (u8q1, .inl (cI, 24, .inl (fun _ => 0))), (u8q2, .inl (cI, 768, .inl (fun _ => 0)))] ++ [(y7, .inr (3, [.int 0, .ref u3q1])), (u3q1, .inl (cI, 1056, .inl (fun _ => 0)))])))))))) ++ gq_hist cI cJ hh (fun _ => gq_S0))) ?_ ?_
  · have h9 := st_prm [(x0, .inr (10, [.ref (a1 0), .ref y2, .ref y3, .ref y4, .ref y5, .ref y6, .ref y7, .int 1]))] (gq_shw cI cJ a1 gq_S0) [(y2, .inr (1, [.int 0, .int 0, .ref y2a])), (y2a, .inl (cO, 8, .inr (.inr (.inr (.inr (fun j => some (hh (17 * j))))))))] (gq_hist cI cJ hh (fun _ => gq_S0)) (((y3, .inr (5, [.int 0, .int 0, .int (-1), .ref (d 0), .ref y3t, .int 0, .int 0])) :: (gq_shw cI cJ d gq_S0 ++ [(y3t, .inl (cI, 900, .inl (fun _ => 0)))])) ++ ([(y4, .inr (0, [.int 0, .int 0, .ref u0q1, .ref u0q2, .ref u0q3, .ref u0q4, .ref u0q5, .ref u0q6, .ref u0q7, .ref u0q8, .ref u0q9, .ref u0q10, .int 0, .int 0, .int 0])), (u0q1, .inl (cI, 31, .inl (fun _ => 0))), (u0q2, .inl (cI, 32, .inl (fun _ => 0))), (u0q3, .inl (cI, 32, .inl (fun _ => 0))), (u0q4, .inl (cI, 32, .inl (fun _ => 0))), (u0q5, .inl (cI, 32, .inl (fun _ => 0))), (u0q6, .inl (cI, 32, .inl (fun _ => 0))), (u0q7, .inl (cI, 33, .inl (fun _ => 0))), (u0q8, .inl (cJ, 33, .inr (.inl (fun _ => 0)))), (u0q9, .inl (cI, 24, .inl (fun _ => 0))), (u0q10, .inl (cI, 24, .inl (fun _ => 0)))] ++ ([(y5, .inr (4, [.int 0, .ref u4q1, .ref u4q2, .ref u4q3, .ref u4q4, .int 0])), (u4q1, .inl (cI, 5, .inl (fun _ => 0))), (u4q2, .inl (cI, 155, .inl (fun _ => 0))), (u4q3, .inl (cI, 31, .inl (fun _ => 0))), (u4q4, .inl (cZ, 31, .inl (fun _ => 0)))] ++ ([(y6, .inr (8, [.ref u8q1, .ref u8q2])), (u8q1, .inl (cI, 24, .inl (fun _ => 0))), (u8q2, .inl (cI, 768, .inl (fun _ => 0)))] ++ [(y7, .inr (3, [.int 0, .ref u3q1])), (u3q1, .inl (cI, 1056, .inl (fun _ => 0)))])))) [(x1, .inr (11, [.ref mq1, .ref mq2, .ref mq3, .int 0, .int 0, .ref mq4, .int 0, .int 0, .int 0, .int 0, .int 0, .int 0, .int 0, .int (-1), .long 0, .ref mq5, .ref mq6, .ref mq7, .ref mq8, .ref mq9, .int (-1), .int (-1), .ref mq10, .ref mq11, .ref mq12, .ref mq13, .int 0])), (mq1, .inl (cJ, 499, .inr (.inl ar))), (mq2, .inl (cJ, 499, .inr (.inl fr))), (mq3, .inl (cJ, 3992, .inr (.inl (fun _ => 0)))), (mq4, .inl (cI, 900, .inl (fun _ => 0))), (mq5, .inl (cI, 33, .inl (fun _ => 0))), (mq6, .inl (cI, 33, .inl (fun _ => 0))), (mq7, .inl (cI, 33, .inl (fun _ => 0))), (mq8, .inl (cI, 32, .inl (fun _ => 0))), (mq9, .inl (cJ, 33, .inr (.inl (fun _ => 0)))), (mq10, .inl (cI, 160, .inl (fun _ => 0))), (mq11, .inl (cI, 5, .inl (fun _ => 0))), (mq12, .inl (cZ, 32, .inl (fun _ => 0))), (mq13, .inl (cI, 1200, .inl (fun _ => 0)))] [(x2, .inl (cJ, 1, .inr (.inl (fun _ => 0))))]
    simp only [List.append_assoc, List.cons_append, List.nil_append] at h9 ⊢
    exact h9
  · have hI : LI cI cJ cZ cO (fun j => ([x0, a1 0, a1 1, a1 2, a1 3, a1 4, a1 5, a1 6, a1 7, a1 8, a1 9, a1 10, a1 11, a1 12, a1 13, a1 14, a1 15, a1 16, y2, y2a, y3, d 0, d 1, d 2, d 3, d 4, d 5, d 6, d 7, d 8, d 9, d 10, d 11, d 12, d 13, d 14, d 15, d 16, y3t, y4, u0q1, u0q2, u0q3, u0q4, u0q5, u0q6, u0q7, u0q8, u0q9, u0q10, y5, u4q1, u4q2, u4q3, u4q4, y6, u8q1, u8q2, y7, u3q1] : List Nat).getD j 0) hh (fun j => ([x1, mq1, mq2, mq3, mq4, mq5, mq6, mq7, mq8, mq9, mq10, mq11, mq12, mq13] : List Nat).getD j 0) x2 ([(x1, .inr (11, [.ref mq1, .ref mq2, .ref mq3, .int 0, .int 0, .ref mq4, .int 0, .int 0, .int 0, .int 0, .int 0, .int 0, .int 0, .int (-1), .long 0, .ref mq5, .ref mq6, .ref mq7, .ref mq8, .ref mq9, .int (-1), .int (-1), .ref mq10, .ref mq11, .ref mq12, .ref mq13, .int 0])), (mq1, .inl (cJ, 499, .inr (.inl ar))), (mq2, .inl (cJ, 499, .inr (.inl fr))), (mq3, .inl (cJ, 3992, .inr (.inl (fun _ => 0)))), (mq4, .inl (cI, 900, .inl (fun _ => 0))), (mq5, .inl (cI, 33, .inl (fun _ => 0))), (mq6, .inl (cI, 33, .inl (fun _ => 0))), (mq7, .inl (cI, 33, .inl (fun _ => 0))), (mq8, .inl (cI, 32, .inl (fun _ => 0))), (mq9, .inl (cJ, 33, .inr (.inl (fun _ => 0)))), (mq10, .inl (cI, 160, .inl (fun _ => 0))), (mq11, .inl (cI, 5, .inl (fun _ => 0))), (mq12, .inl (cZ, 32, .inl (fun _ => 0))), (mq13, .inl (cI, 1200, .inl (fun _ => 0)))] ++ (([(x2, .inl (cJ, 1, .inr (.inl (fun _ => 0))))] ++ ([(x0, .inr (10, [.ref (a1 0), .ref y2, .ref y3, .ref y4, .ref y5, .ref y6, .ref y7, .int 1]))] ++ (gq_shw cI cJ a1 gq_S0 ++ ([(y2, .inr (1, [.int 0, .int 0, .ref y2a])), (y2a, .inl (cO, 8, .inr (.inr (.inr (.inr (fun j => some (hh (17 * j))))))))] ++ (((y3, .inr (5, [.int 0, .int 0, .int (-1), .ref (d 0), .ref y3t, .int 0, .int 0])) :: (gq_shw cI cJ d gq_S0 ++ [(y3t, .inl (cI, 900, .inl (fun _ => 0)))])) ++ ([(y4, .inr (0, [.int 0, .int 0, .ref u0q1, .ref u0q2, .ref u0q3, .ref u0q4, .ref u0q5, .ref u0q6, .ref u0q7, .ref u0q8, .ref u0q9, .ref u0q10, .int 0, .int 0, .int 0])), (u0q1, .inl (cI, 31, .inl (fun _ => 0))), (u0q2, .inl (cI, 32, .inl (fun _ => 0))), (u0q3, .inl (cI, 32, .inl (fun _ => 0))), (u0q4, .inl (cI, 32, .inl (fun _ => 0))), (u0q5, .inl (cI, 32, .inl (fun _ => 0))), (u0q6, .inl (cI, 32, .inl (fun _ => 0))), (u0q7, .inl (cI, 33, .inl (fun _ => 0))), (u0q8, .inl (cJ, 33, .inr (.inl (fun _ => 0)))), (u0q9, .inl (cI, 24, .inl (fun _ => 0))), (u0q10, .inl (cI, 24, .inl (fun _ => 0)))] ++ ([(y5, .inr (4, [.int 0, .ref u4q1, .ref u4q2, .ref u4q3, .ref u4q4, .int 0])), (u4q1, .inl (cI, 5, .inl (fun _ => 0))), (u4q2, .inl (cI, 155, .inl (fun _ => 0))), (u4q3, .inl (cI, 31, .inl (fun _ => 0))), (u4q4, .inl (cZ, 31, .inl (fun _ => 0)))] ++ ([(y6, .inr (8, [.ref u8q1, .ref u8q2])), (u8q1, .inl (cI, 24, .inl (fun _ => 0))), (u8q2, .inl (cI, 768, .inl (fun _ => 0)))] ++ [(y7, .inr (3, [.int 0, .ref u3q1])), (u3q1, .inl (cI, 1056, .inl (fun _ => 0)))])))))))) ++ gq_hist cI cJ hh (fun _ => gq_S0))) := ⟨1, 0, 0, (fun _ => 0), (fun _ => 0), (fun _ => 0), (fun _ => 0), (fun _ => 0), (fun _ => 0), 0, (fun _ => 0), (fun _ => 0), (fun _ => 0), 0, 0, 0, (fun _ => 0), (fun _ => 0), (fun _ => 0), gq_first, 0, 0, 0, 0, (-1), 0, 0, 0, 0, (fun _ => 0), (fun _ => 0), (fun _ => 0), (fun _ => 0), (fun _ => 0), (fun _ => 0), 0, (fun _ => 0), (fun _ => 0), (fun _ => 0), 0, 0, 0, (fun _ => 0), (fun _ => 0), (fun _ => 0), (fun _ => 0), (fun _ => 0), 0, 0, 0, 0, 0, (fun _ => 0), (fun _ => 0), (fun _ => 0), (fun _ => 0), (fun _ => 0), (fun _ => 0), (fun _ => 0), (fun _ => 0), (fun _ => 0), (fun _ => 0), 0, 0, (fun _ => 0), (fun _ => 0), (fun _ => 0), (fun _ => 0), (fun _ => 0), (fun _ => 0), 0, (fun _ => 0), (fun _ => gq_S0), 0, 0, 0, 0, 0, 0, 0, 0, 0, (-1), 0, (-1), (-1), 0, ar, fr, (fun _ => 0), (fun _ => 0), (fun _ => 0), (fun _ => 0), (fun _ => 0), (fun _ => 0), (fun _ => 0), (fun _ => 0), (fun _ => 0), (fun _ => 0), (fun _ => 0), (fun _ => 0), rel0 hmr, rfl⟩
    exact lw_loop hlS hC0 hX hbl hL (L + 6) 0 211 16275 _ (by omega) (Nat.zero_le L) (by omega) (by omega) hI
set_option maxHeartbeats 4000000 in
theorem lw_walk (l : Launch) (hflags : l.flags = flags0) (b : Addr) (xs : List Int32) : MetFree l x (headSpec (Jvm.Cond.code x code maxLocals ret :: tables_1) room_1) (lw_P b xs) (fun _ _ _ _ _ => True) lw_Q := by
  refine MetFree.of_bodyS (code := code) (maxLocals := maxLocals) (ret := ret) (by decide) ?_ ?_
  · intro args s m h hn
    obtain ⟨meth, c, h1, h2, h3, h4, h5, h6, -, -⟩ := Cond.code_spec hn (atoms_spec (ws := Jvm.Cond.code x code maxLocals ret :: tables_1) h _ List.mem_cons_self)
    exact ⟨meth, c, h1, h2, h3, h4, h5, h6⟩
  · intro p e s m args below meth c s₁ B hml0 hP _
    obtain ⟨rfl, hx, hbd, hgv⟩ := hP
    obtain ⟨scr, harrAt, hlist, hof, hsmall⟩ := hx
    obtain ⟨hcb, hkn, -, -⟩ := State.arrayAt?_spec harrAt
    have hown : s.vm.findClass R_law = some m.cls := findClass_of_methodNamed B.named
    have hts0 : ∀ c ∈ (Jvm.Cond.code x code maxLocals ret :: tables_1), c.before #[Value.ref b] s = true := atoms_spec (ws := Jvm.Cond.code x code maxLocals ret :: tables_1) B.pre
    have hts : ∀ w ∈ lw_tbl, w.before #[Value.ref b] s = true := k2_hts_sels lw_privs (fun w hw => hts0 w (List.mem_cons_of_mem _ hw)) lw_privs_ok
    have hml : c.maxLocals = 7 := B.maxLocals_eq (hts0 _ List.mem_cons_self)
    have X₀ : Stand p l e room_1 s m #[Value.ref b] below meth c s₁ [] 0 0 := Stand.of_body B
    have hh0 : s₁.heap = s.heap := by rw [B.state]; rfl
    have hsz : scr.slots.size = xs.length := by rw [← Array.length_toList, hlist, List.length_map]
    have hval : ∀ j : Nat, j < xs.length → scr.slots[j]? = some (.int (xs.getD j 0)) := fun j hj => by
      rw [← Array.getElem?_toList, hlist]
      simp [hj]
    have hbl : b < s.heap.size := (Array.getElem?_eq_some_iff.mp hcb).1
    have hX : va_X b xs.length (fun j => xs.getD j 0) s s.heap := ⟨scr, hcb, hof, hkn, hsz, hval⟩
    have K : W p l e room_1 s m #[Value.ref b] below meth c s₁.heap [] 0 0 (lw_Z below #[Value.ref b] s) (entryFrame m ([Value.ref b] : List Value).toArray 7) := by
      rw [hh0]
      exact whole_start l hflags hbd ⟨B.exec, B.bytes, B.returns, hml, hown, hts, hX, hbl, B.notSynchronized, hgv⟩
    obtain ⟨t, a1, o, b1, b2, b3⟩ := K s₁ rfl X₀
    exact ⟨t, o, a1, b1, b2, b3⟩
theorem lw_pre_spec {args : Array Value} {s : State} (h : (Jvm.Cond.and given_1 narrow_1).before args s = true) (hr : rest_1_c.before args s = true) : ∃ (b : Addr) (xs : List Int32), lw_P b xs args s := by
  have hs := flat_of_before _ h
  have hq := flat_of_before _ hr
  have hc : (Cond.count 1).before args s = true := hs _ (by decide +kernel)
  have harr : (Cond.arrayOf (.arg 0) .int).before args s = true := hs _ (by decide +kernel)
  have hle : (Cond.le (.length (.arg 0)) (.int 3072)).before args s = true := hs _ (by decide +kernel)
  have hlen : (Cond.isInt (.length (.arg 0))).before args s = true := hq _ (by decide +kernel)
  have hall : (Cond.all (.arg 0) (.isInt (.elem (.arg 0) (.index 0)))).before args s = true := hq _ (by decide +kernel)
  obtain ⟨b, xs, hb, hx⟩ := State.ints_of_pre rfl harr hlen hall
  have hsm : xs.length < 2 ^ 31 := hx.choose_spec.2.2.2
  have hev : (Term.length (.arg 0)).eval args s none [] s = some (.int xs.length.toInt32) := hx.length_eval hb
  have hv := Cond.le_ints hev (show (Term.int 3072).eval args s none [] s = some (.int 3072) from rfl)
  have hd : xs.length.toInt32 ≤ 3072 := by
    simpa [Cond.before, Cond.holds, hv] using hle
  have hN : xs.length ≤ 3072 := (Int32.ofNat_le_ofNat hsm (by decide)).mp (show Int32.ofNat xs.length ≤ Int32.ofNat 3072 from hd)
  exact ⟨b, xs, Cond.one_arg hc (show args[0]? = some (.ref b) from hb), hx, hN, h⟩
theorem lw_comes (l : Launch) (hflags : l.flags = flags0) : Comes l x (Jvm.Cond.code x code maxLocals ret :: tables_1) room_1 (fun tb e args s => Calls_1 tb e args s ∧ rest_1 tb e args s ∧ Pre_1 tb e args s)
    (fun _ _ args s o t => lw_Q args s o t) := by
  intro p e ha hc hk s m args below hf hfit hheap happ hpre
  obtain ⟨b, xs, hP⟩ := lw_pre_spec hpre.2.2 hpre.2.1
  obtain ⟨k, o, h1, h2, h3, hQ⟩ := lw_walk l hflags b xs p e ha hc hk s m args below hf ((Spec.applies_iff_loose hf).mp happ).1 hP trivial
  exact ⟨k, o, h1, h2, h3, hQ⟩
theorem lw_frame {s t : State} {o : Outcome} {args : Array Value} (h : Framed s o t [] 601024 7293034) :
    Framed s o t (fieldLocs frame_1_writes args s ++ arrayLocs frame_1_arrays args s ++ staticLocs frame_1_statics s) 601024 7293034 := h
theorem lw_limb (L : Cond) (hL : ∀ (args : Array Value) (s t : State), L.after args s (.returned (some (.int 1))) t = true) :
    ArmFor flags0 classFile x code maxLocals ret World_1 tables_1 room_1 Calls_1 rest_1 Pre_1
      (fun tb e a s o t => postC L tb e a s o t ∧ Framed s o t (fieldLocs frame_1_writes a s ++ arrayLocs frame_1_arrays a s ++ staticLocs frame_1_statics s) 601024 7293034) := by
  intro l hflags _ _ p e ha hc hk s m args below hf hfit hheap happ hpre
  obtain ⟨k, o, h1, h2, h3, rfl, hF⟩ := lw_comes l hflags p e ha hc hk s m args below hf hfit hheap happ hpre
  exact ⟨k, _, h1, h2, h3, hL args s _, lw_frame hF⟩
theorem i_vc : Claimed_1_1 ∧ Claimed_1_2 := ⟨lw_limb limb_1_1 (fun args s t => by simp [limb_1_1, Cond.after, Cond.holds, Cond.value]), lw_limb limb_1_2 (fun args s t => Cond.after_iff.mpr (by
  first | (rw [show limb_1_2 = Cond.eq .result (.int 1) from rfl, Cond.eq_ints (x := 1) (y := 1) rfl rfl]; simp; done) | (simp [limb_1_2, Cond.value, Term.eval]; done)))⟩
