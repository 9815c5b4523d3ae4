/-! ===== all the chapters on a page ===== -/
section
variable {A : Nat → Nat} {a : Nat → Int64} {x : Int × Nat × Nat} {spd cnt W C E : Nat → Int32} {nam : Nat → Int64} {sc wc ns : Int32} {ord dur pau siz wor wi le re : Nat → Int32}
theorem gi_z {α : Type} {n : Nat} {y : Option α} (h : 0 < n) (hn : n < 2 ^ 31) : gi (0 : Int32) n y = y := gi_n (j := 0) h hn
theorem len1 {L : List Nat} {c : Nat} : (L ++ [c]).length = L.length + 1 := by rw [List.length_append]; rfl
theorem p_chLoop (hV : VA A) (hx : tbl A 0 = some x) (hT : TV A spd cnt) (h : TR A sc wc ord dur pau siz wor nam) (hQ : QR A ns wi le re) {bc : Int32} {pl : Nat → Int32} (hP : PV A bc pl) {fir : Nat → Int32} (hf : ∀ k, k ≤ x.2.1 → fir k = nI (bg (tbl A) k)) {by_ : Nat → Int32} {s1 v31 v32 v33 v34 v45 : Int32} {v35 v37 v38 v39 v40 v41 v42 v43 v47 v48 v49 : Nat → Int32} :
    ∃ by', wh (fun k (q : Int32 × (Int32) × (Nat → Int32)) => S_X10_writeChapters_13 s1 ord dur nam ns le (nI (x.2.1 + 1)) v31 v32 v33 v34 v35 fir v37 v38 v39 v40 v41 v42 v43 bc v45 pl v47 v48 v49 spd cnt k q.1 q.2.1 q.2.2) wF ((0 : Int32), (0 : Int32), by_) = some (nI (pgc A x.2.1 (x.2.1 + 1)).length, by') ∧ PG (pgc A x.2.1 (x.2.1 + 1)) (nI (pgc A x.2.1 (x.2.1 + 1)).length) by' := by
  have hn6 := hV.n
  have hc := tbl_cht hx
  have hK := hc.K
  refine wh_up (x.2.1 + 1) (by omega) (fun (j : Nat) (q : Int32 × (Int32) × (Nat → Int32)) => q.1 = nI j ∧ PG (pgc A x.2.1 j) q.2.1 q.2.2) (fun (o : Option (((Int32) × (Nat → Int32)))) => ∃ by', o = some (nI (pgc A x.2.1 (x.2.1 + 1)).length, by') ∧ PG (pgc A x.2.1 (x.2.1 + 1)) (nI (pgc A x.2.1 (x.2.1 + 1)).length) by') (fun j q hj hI k hk => ?_) (Nat.zero_le _) ⟨rfl, PG.nil⟩
  obtain ⟨l, ln, P⟩ := q
  obtain ⟨e1, e2⟩ := hI
  have e1 : l = nI j := e1
  subst e1
  have e2 : PG (pgc A x.2.1 j) ln P := e2
  show ∃ by', S_X10_writeChapters_13 s1 ord dur nam ns le (nI (x.2.1 + 1)) v31 v32 v33 v34 v35 fir v37 v38 v39 v40 v41 v42 v43 bc v45 pl v47 v48 v49 spd cnt k (nI j) ln P = _ ∧ _
  unfold S_X10_writeChapters_13
  by_cases hlt : j < x.2.1 + 1
  · have hb := (hc.1 j (by omega)).1
    have hl := pgc_len hV hx j (by omega)
    have h5 := dgl_5 (rtt_le hV (s := bg (tbl A) j) (by omega))
    have h26 := ttl_26 hV (K := x.2.1) (c := j)
    rw [if_neg (show ¬ nI (x.2.1 + 1) ≤ nI j from fun h => by have := (nI_leI (by omega) (by omega)).mp h; omega), gi_n (by omega) (by omega), nI_clamp (by omega), hf j (by omega), p_realTime hV h hQ hP (by omega), ob1_some]
    have hr := rtt_le hV (s := bg (tbl A) j) (by omega)
    obtain ⟨b1, f1, g1⟩ := p_putNumber (x := rtt A (bg (tbl A) j)) (by omega) e2 (by omega)
    have l1 : (pgc A x.2.1 j ++ dgl 12 (rtt A (bg (tbl A) j))).length = (pgc A x.2.1 j).length + (dgl 12 (rtt A (bg (tbl A) j))).length := List.length_append
    obtain ⟨b2, f2, g2⟩ := p_put g1 (by omega) (c := 32)
    have f2 : F_X3_put (32 : Int32) (nI (pgc A x.2.1 j ++ dgl 12 (rtt A (bg (tbl A) j))).length) b1 = _ := f2
    have l2 := len1 (L := pgc A x.2.1 j ++ dgl 12 (rtt A (bg (tbl A) j))) (c := 32)
    obtain ⟨b3, f3, g3⟩ := p_writeTitle hV hx hT h.2.2.2 (c := j) (by omega) g2 (by omega)
    have l3 : ((pgc A x.2.1 j ++ dgl 12 (rtt A (bg (tbl A) j)) ++ [32]) ++ ttl A x.2.1 j 3 0).length = (pgc A x.2.1 j ++ dgl 12 (rtt A (bg (tbl A) j)) ++ [32]).length + (ttl A x.2.1 j 3 0).length := List.length_append
    obtain ⟨b4, f4, g4⟩ := p_put g3 (by omega) (c := 59)
    have f4 : F_X3_put (59 : Int32) (nI ((pgc A x.2.1 j ++ dgl 12 (rtt A (bg (tbl A) j)) ++ [32]) ++ ttl A x.2.1 j 3 0).length) b3 = _ := f4
    rw [f1, ob2_some, f2, ob2_some, f3, ob2_some, f4, ob2_some, show nI j + (1 : Int32) = nI (j + 1) from nI_add j 1]
    refine hk hlt _ ⟨rfl, ?_⟩
    have e : pgc A x.2.1 (j + 1) = ((pgc A x.2.1 j ++ dgl 12 (rtt A (bg (tbl A) j)) ++ [32]) ++ ttl A x.2.1 j 3 0) ++ [59] := by
      show pgc A x.2.1 j ++ (dgl 12 (rtt A (bg (tbl A) j)) ++ ([32] ++ (ttl A x.2.1 j 3 0 ++ [59]))) = _
      rw [List.append_assoc, List.append_assoc, List.append_assoc]
    rw [e]
    exact g4
  · have h8 : j = x.2.1 + 1 := by omega
    subst h8
    rw [if_pos (nI_le (Nat.le_refl _) (by omega))]
    have e5 : ln = nI (pgc A x.2.1 (x.2.1 + 1)).length := e2.1
    rw [e5]
    exact ⟨P, rfl, e5 ▸ e2⟩
theorem q_chLoop (hV : VA A) (hM : MR A a) (hx : tbl A 0 = some x) (hR : RB A W C E) {th : Int32} {G cos pl cut : Nat → Int32} {Y : Nat → Int64} {by_ : Nat → Int32} :
    ∃ W' C' E' G' Y' cos' pl' cut' by', wh (fun k (q : Int32 × (Int32) × (Nat → Int32) × (Nat → Int32) × (Nat → Int32) × (Nat → Int32) × (Nat → Int64) × (Nat → Int32) × (Nat → Int32) × (Nat → Int32) × (Nat → Int32)) => S_X11_writeChapters_39 (nI x.2.1) th (-nI 1) (-nI 1) a k q.1 q.2.1 q.2.2.1 q.2.2.2.1 q.2.2.2.2.1 q.2.2.2.2.2.1 q.2.2.2.2.2.2.1 q.2.2.2.2.2.2.2.1 q.2.2.2.2.2.2.2.2.1 q.2.2.2.2.2.2.2.2.2.1 q.2.2.2.2.2.2.2.2.2.2) wF ((0 : Int32), (0 : Int32), W, C, E, G, Y, cos, pl, cut, by_) = some (nI (pgc A x.2.1 (x.2.1 + 1)).length, W', C', E', G', Y', cos', pl', cut', by') ∧ PG (pgc A x.2.1 (x.2.1 + 1)) (nI (pgc A x.2.1 (x.2.1 + 1)).length) by' := by
  have hn6 := hV.n
  have hc := tbl_cht hx
  have hK := hc.K
  refine wh_up (x.2.1 + 1) (by omega) (fun j (q : Int32 × (Int32) × (Nat → Int32) × (Nat → Int32) × (Nat → Int32) × (Nat → Int32) × (Nat → Int64) × (Nat → Int32) × (Nat → Int32) × (Nat → Int32) × (Nat → Int32)) => q.1 = nI j ∧ PG (pgc A x.2.1 j) q.2.1 q.2.2.2.2.2.2.2.2.2.2 ∧ RB A q.2.2.1 q.2.2.2.1 q.2.2.2.2.1) (fun (o : Option ((Int32) × (Nat → Int32) × (Nat → Int32) × (Nat → Int32) × (Nat → Int32) × (Nat → Int64) × (Nat → Int32) × (Nat → Int32) × (Nat → Int32) × (Nat → Int32))) => ∃ W' C' E' G' Y' cos' pl' cut' by', o = some (nI (pgc A x.2.1 (x.2.1 + 1)).length, W', C', E', G', Y', cos', pl', cut', by') ∧ PG (pgc A x.2.1 (x.2.1 + 1)) (nI (pgc A x.2.1 (x.2.1 + 1)).length) by') (fun j q hj hI k hk => ?_) (Nat.zero_le _) ⟨rfl, PG.nil, hR⟩
  obtain ⟨l, ln, W, C, E, G, Y, cos, pl, cut, P⟩ := q
  obtain ⟨e1, e2, e3⟩ := hI
  have e1 : l = nI j := e1
  subst e1
  have e2 : PG (pgc A x.2.1 j) ln P := e2
  have e3 : RB A W C E := e3
  show ∃ W' C' E' G' Y' cos' pl' cut' by', S_X11_writeChapters_39 (nI x.2.1) th (-nI 1) (-nI 1) a k (nI j) ln W C E G Y cos pl cut P = _ ∧ _
  unfold S_X11_writeChapters_39
  by_cases hlt : j < x.2.1 + 1
  · have hb := (hc.1 j (by omega)).1
    have hl := pgc_len hV hx j (by omega)
    have h5 := dgl_5 (rtt_le hV (s := bg (tbl A) j) (by omega))
    have h26 := ttl_26 hV (K := x.2.1) (c := j)
    obtain ⟨W', C', E', G', Y', cos', pl', cut', r1, r2⟩ := q_realTime (W := W) (C := C) (E := E) (G := G) (cos := cos) (pl := pl) (Y := Y) (cut0 := cut) hV hM (s := bg (tbl A) j) (by omega)
    rw [if_neg (show ¬ nI x.2.1 < nI j from fun h => by have := (nI_ltI (by omega) (by omega)).mp h; omega), q_beginOf hV hx e3 (by omega), ob1_some, ob9_s r1]
    have hr := rtt_le hV (s := bg (tbl A) j) (by omega)
    obtain ⟨b1, f1, g1⟩ := q_saysNumber 12 (rtt A (bg (tbl A) j)) (by omega) (Nat.lt_of_lt_of_le hr (by decide)) (by omega) e2 (by omega)
    have l1 : (pgc A x.2.1 j ++ dgl 12 (rtt A (bg (tbl A) j))).length = (pgc A x.2.1 j).length + (dgl 12 (rtt A (bg (tbl A) j))).length := List.length_append
    obtain ⟨b2, f2, g2⟩ := q_says g1 (by omega) (c := 32)
    have f2 : F_X11_says (32 : Int32) (nI (pgc A x.2.1 j ++ dgl 12 (rtt A (bg (tbl A) j))).length) b1 = _ := f2
    have l2 := len1 (L := pgc A x.2.1 j ++ dgl 12 (rtt A (bg (tbl A) j))) (c := 32)
    obtain ⟨b3, f3, g3⟩ := q_writeTitle (l1 := nI x.2.1) (th := th) (tc := -nI 1) (tl := -nI 1) (G := G') (cos := cos') (pl := pl') (cut := cut') (Y := Y') hV hM hx r2 (c := j) (by omega) g2 (by omega)
    have l3 : ((pgc A x.2.1 j ++ dgl 12 (rtt A (bg (tbl A) j)) ++ [32]) ++ ttl A x.2.1 j 3 0).length = (pgc A x.2.1 j ++ dgl 12 (rtt A (bg (tbl A) j)) ++ [32]).length + (ttl A x.2.1 j 3 0).length := List.length_append
    obtain ⟨b4, f4, g4⟩ := q_says g3 (by omega) (c := 59)
    have f4 : F_X11_says (59 : Int32) (nI ((pgc A x.2.1 j ++ dgl 12 (rtt A (bg (tbl A) j)) ++ [32]) ++ ttl A x.2.1 j 3 0).length) b3 = _ := f4
    rw [f1, ob2_some, f2, ob2_some, ob2_s f3, f4, ob2_some, show nI j + (1 : Int32) = nI (j + 1) from nI_add j 1]
    refine hk hlt _ ⟨rfl, ?_, r2⟩
    have e : pgc A x.2.1 (j + 1) = ((pgc A x.2.1 j ++ dgl 12 (rtt A (bg (tbl A) j)) ++ [32]) ++ ttl A x.2.1 j 3 0) ++ [59] := by
      show pgc A x.2.1 j ++ (dgl 12 (rtt A (bg (tbl A) j)) ++ ([32] ++ (ttl A x.2.1 j 3 0 ++ [59]))) = _
      rw [List.append_assoc, List.append_assoc, List.append_assoc]
    rw [e]
    exact g4
  · have h8 : j = x.2.1 + 1 := by omega
    subst h8
    rw [if_pos (show nI x.2.1 < nI (x.2.1 + 1) from (nI_ltI (by omega) (by omega)).mpr (by omega))]
    have e5 : ln = nI (pgc A x.2.1 (x.2.1 + 1)).length := e2.1
    rw [e5]
    exact ⟨W, C, E, G, Y, cos, pl, cut, P, rfl, e5 ▸ e2⟩
/-- by the reference, the whole call -/
theorem q_writeChapters (hV : VA A) (hM : MR A a) {th wm : Int32} {G cos pl cut by_ : Nat → Int32} {Y : Nat → Int64} {W C E : Nat → Int32} :
    (tbl A 0 = none → ∃ W' C' E' G' Y', F_X11_writeChapters th (-nI 1) (-nI 1) wm a W C E G Y cos pl cut by_ = some (nI 0, nI 1, wm, W', C', E', G', Y', cos, pl, cut, by_)) ∧
    (∀ x, tbl A 0 = some x → ∃ W' C' E' G' Y' cos' pl' cut' by', F_X11_writeChapters th (-nI 1) (-nI 1) wm a W C E G Y cos pl cut by_ = some (nI (pgc A x.2.1 (x.2.1 + 1)).length, nI 0, nI (pgc A x.2.1 (x.2.1 + 1)).length, W', C', E', G', Y', cos', pl', cut', by') ∧ PG (pgc A x.2.1 (x.2.1 + 1)) (nI (pgc A x.2.1 (x.2.1 + 1)).length) by') := by
  obtain ⟨W', C', E', G', Y', f1, f2, f3⟩ := q_best (W := W) (C := C) (L := E) (G := G) (Y := Y) hV hM
  unfold F_X11_writeChapters
  rw [f1, ob6_some]
  refine ⟨fun h => ?_, fun x hx => ?_⟩
  · rw [bI_0 (by rw [h]; decide), if_pos (show nI 0 = (0 : Int32) from rfl)]
    unfold F_X11_writeChapters_b13
    rw [if_neg (show ¬ (1 : Int32) ≤ 0 by decide)]
    exact ⟨_, _, _, _, _, rfl⟩
  · rw [bI_1 (by rw [hx]; rfl), if_neg (show ¬ nI 1 = (0 : Int32) by decide)]
    have hz := f2.z hx
    have e0 : C' (0 : Int32).toNatClampNeg = nI x.2.1 := hz.2.1
    obtain ⟨W2, C2, E2, G2, Y2, cos2, pl2, cut2, by2, g1, g2⟩ := q_chLoop (th := (0 : Int32)) (G := G') (cos := cos) (pl := pl) (cut := cut) (Y := Y') (by_ := by_) hV hM hx f2
    unfold F_X11_writeChapters_b13
    rw [if_pos (show (0 : Int32) ≤ 0 by decide), e0, gi_z (show 0 < 33 by omega) (by omega), ob10_s g1]
    exact ⟨_, _, _, _, _, _, _, _, _, rfl, g2⟩
end
