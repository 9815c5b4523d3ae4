/-! ===== the claim out of one walk (the kit's words), the law's loop ===== -/
def R_law : String := "ChapterBuilderLaw"
def lw_P (b : Addr) (xs : List Int32) (args : Array Value) (s : State) : Prop := args = #[.ref b] ∧ s.IntsAt b xs ∧ xs.length ≤ 3072 ∧ (Jvm.Cond.and given_1 narrow_1).before args s = true
def lw_Q (_ : Array Value) (s : State) (o : Outcome) (t : State) : Prop := o = .returned (some (.int 1)) ∧ Framed s o t [] 601024 7293034
def lw_Z (below : List Frame) (a : Array Value) (s : State) : State → Prop := fun t => ∃ o, t.status = .running ∧ Ended t below o ∧ lw_Q a s o t
/-- the law's own end, with 1 on the stack, nothing written that was there before, its room as the claim has it -/
theorem lw_ret {p : Program} {l : Launch} {e : Env} {s : State} {m : MethodId} {below : List Frame} {meth : Method} {c : Code} {b : Nat} (hx : p.tables.exec = Jvm.exec) (hb : c.code = code) (hr : meth.sig.returnType = ret) (hlocks : meth.locks = false) {pc : Nat} {H : Heap} {ls : Array Slot} (hdg : decode code pc = .ok (.ireturn, 1)) : W p l e room_1 s m #[Value.ref b] below meth c H [] 601024 7293034 (lw_Z below #[Value.ref b] s) (F0 m pc ls [.int 1]) := by
  intro T hT X
  obtain ⟨fs, hret, hrun, hended, hW, hframe⟩ := X.leave (v := some (.int 1)) (hlocks := hlocks) (fun h => by rw [hr] at h; cases h)
  have hmeth' : T.vm.method? m = some meth := X.method'
  refine ⟨T.setFrames fs, ?_, .returned (some (.int 1)), hrun, hended, rfl, ⟨_, rfl⟩, hW, hframe⟩
  jvm_step X.here [X.here.top, hx, hb, hdg, hmeth', hr, ret, narrow_b1]
  (try refine ⟨rfl, ?_⟩); (try refine ⟨rfl, ?_⟩)
  first | (intro acts; rw [hret _ acts rfl rfl rfl]) | rw [hret _ _ rfl rfl rfl]
  exact Steps.refl _
/-- what holds at the law's entry: the machine, the code, the tables' words (any of lw_tbl by 'hts w (by decide +kernel)'), the script of L ints xs at the cell b, what the Statement gives of the start (any of its parts by flat_of_before) -/
def lw_At (p : Program) (s : State) (m : MethodId) (meth : Method) (c : Code) (b L : Nat) (xs : Nat → Int32) : Prop :=
  p.tables.exec = Jvm.exec ∧ c.code = code ∧ meth.sig.returnType = ret ∧ c.maxLocals = 7 ∧ s.vm.findClass R_law = some m.cls ∧ (∀ w ∈ lw_tbl, w.before #[Value.ref b] s = true) ∧ va_X b L xs s s.heap ∧ b < s.heap.size ∧ meth.locks = false ∧ (Jvm.Cond.and given_1 narrow_1).before #[Value.ref b] s = true
theorem and63 (x : Int32) : ∃ t : Nat, t < 64 ∧ x &&& 63 = nI t := by
  refine ⟨(x.toBitVec &&& 63#32).toNat, ?_, ?_⟩
  · rw [BitVec.toNat_and]
    exact Nat.lt_of_le_of_lt Nat.and_le_right (by decide)
  · apply Int32.toBitVec_inj.mp
    show x.toBitVec &&& 63#32 = BitVec.ofNat 32 _
    simp
theorem hlS_of {l : Launch} (h : l.flags = flags0) : l.stackTraces = false := by
  unfold Launch.stackTraces
  rw [h]
  decide +kernel
set_option maxHeartbeats 8000000 in
set_option maxRecDepth 100000 in
theorem LI.elim {cI cJ cZ cO : ClassId} {ha hh hb : Nat → Nat} {ho : Nat} {ws : va_W} {P : Prop} (h : LI cI cJ cZ cO ha hh hb ho ws) (k : ∀ (stl : Int32) (sc : Int32) (wc : Int32) (ord : Nat → Int32) (dur : Nat → Int32) (pau : Nat → Int32) (siz : Nat → Int32) (wor : Nat → Int32) (nam : Nat → Int64) (ns : Int32) (wi : Nat → Int32) (le : Nat → Int32) (re : Nat → Int32) (ex : Int32) (kn : Int32) (kt : Int32) (kr : Nat → Int32) (ks : Nat → Int32) (kd : Nat → Int32) (set : Nat → Int32) (hsz : Int32) (hol : Int32) (bl : Int32) (rec_ : Int32) (ea : Int32) (ren : Int32) (rat : Int32) (rsc : Int32) (rwc : Int32) (rord : Nat → Int32) (rdur : Nat → Int32) (rpau : Nat → Int32) (rsiz : Nat → Int32) (rwor : Nat → Int32) (rnam : Nat → Int64) (rns : Int32) (rwi : Nat → Int32) (rle : Nat → Int32) (rre : Nat → Int32) (rex : Int32) (rkn : Int32) (rkt : Int32) (rkr : Nat → Int32) (rks : Nat → Int32) (rkd : Nat → Int32) (rset : Nat → Int32) (text : Nat → Int32) (cc : Int32) (bw : Int32) (dn : Int32) (lea : Int32) (mos : Int32) (chg : Nat → Int32) (fir : Nat → Int32) (cat : Nat → Int32) (wrt : Nat → Int32) (cuc : Nat → Int32) (las : Nat → Int32) (sta : Nat → Int32) (dwy : Nat → Int64) (lef : Nat → Int32) (rig : Nat → Int32) (bc : Int32) (bcn : Int32) (pl : Nat → Int32) (cos : Nat → Int32) (tim : Nat → Int32) (cut : Nat → Int32) (spd : Nat → Int32) (cnt : Nat → Int32) (pn : Int32) (pb : Nat → Int32) (HI : Nat → gq_SH) (km : Int32) (th : Int32) (bn : Int32) (qsz : Int32) (qat : Int32) (qbe : Int32) (qkd : Int32) (qwr : Int32) (qwa : Int32) (qe : Int32) (qnu : Int64) (tc : Int32) (tl : Int32) (wn : Int32) (a : Nat → Int64) (qfr : Nat → Int64) (kp : Nat → Int64) (buf : Nat → Int32) (W : Nat → Int32) (C : Nat → Int32) (E : Nat → Int32) (G : Nat → Int32) (Y : Nat → Int64) (qco : Nat → Int32) (qpl : Nat → Int32) (qcu : Nat → Int32) (wb : Nat → Int32) (ov : Nat → Int64), REL sc wc ord dur pau siz wor nam ns wi le re ex kn kt kr ks kd set stl cc bw dn lea mos chg fir cat sta bc bcn pl tim spd cnt hsz hol HI bl text ea pn pb a km kp bn buf qe wn wb tc tl → ws = (LW cI cJ cZ cO ha hh hb ho stl sc wc ord dur pau siz wor nam ns wi le re ex kn kt kr ks kd set hsz hol bl rec_ ea ren rat rsc rwc rord rdur rpau rsiz rwor rnam rns rwi rle rre rex rkn rkt rkr rks rkd rset text cc bw dn lea mos chg fir cat wrt cuc las sta dwy lef rig bc bcn pl cos tim cut spd cnt pn pb HI km th bn qsz qat qbe qkd qwr qwa qe qnu tc tl wn a qfr kp buf W C E G Y qco qpl qcu wb ov) → P) : P := Exists.elim h fun stl h => Exists.elim h fun sc h => Exists.elim h fun wc h => Exists.elim h fun ord h => Exists.elim h fun dur h => Exists.elim h fun pau h => Exists.elim h fun siz h => Exists.elim h fun wor h => Exists.elim h fun nam h => Exists.elim h fun ns h => Exists.elim h fun wi h => Exists.elim h fun le h => Exists.elim h fun re h => Exists.elim h fun ex h => Exists.elim h fun kn h => Exists.elim h fun kt h => Exists.elim h fun kr h => Exists.elim h fun ks h => Exists.elim h fun kd h => Exists.elim h fun set h => Exists.elim h fun hsz h => Exists.elim h fun hol h => Exists.elim h fun bl h => Exists.elim h fun rec_ h => Exists.elim h fun ea h => Exists.elim h fun ren h => Exists.elim h fun rat h => Exists.elim h fun rsc h => Exists.elim h fun rwc h => Exists.elim h fun rord h => Exists.elim h fun rdur h => Exists.elim h fun rpau h => Exists.elim h fun rsiz h => Exists.elim h fun rwor h => Exists.elim h fun rnam h => Exists.elim h fun rns h => Exists.elim h fun rwi h => Exists.elim h fun rle h => Exists.elim h fun rre h => Exists.elim h fun rex h => Exists.elim h fun rkn h => Exists.elim h fun rkt h => Exists.elim h fun rkr h => Exists.elim h fun rks h => Exists.elim h fun rkd h => Exists.elim h fun rset h => Exists.elim h fun text h => Exists.elim h fun cc h => Exists.elim h fun bw h => Exists.elim h fun dn h => Exists.elim h fun lea h => Exists.elim h fun mos h => Exists.elim h fun chg h => Exists.elim h fun fir h => Exists.elim h fun cat h => Exists.elim h fun wrt h => Exists.elim h fun cuc h => Exists.elim h fun las h => Exists.elim h fun sta h => Exists.elim h fun dwy h => Exists.elim h fun lef h => Exists.elim h fun rig h => Exists.elim h fun bc h => Exists.elim h fun bcn h => Exists.elim h fun pl h => Exists.elim h fun cos h => Exists.elim h fun tim h => Exists.elim h fun cut h => Exists.elim h fun spd h => Exists.elim h fun cnt h => Exists.elim h fun pn h => Exists.elim h fun pb h => Exists.elim h fun HI h => Exists.elim h fun km h => Exists.elim h fun th h => Exists.elim h fun bn h => Exists.elim h fun qsz h => Exists.elim h fun qat h => Exists.elim h fun qbe h => Exists.elim h fun qkd h => Exists.elim h fun qwr h => Exists.elim h fun qwa h => Exists.elim h fun qe h => Exists.elim h fun qnu h => Exists.elim h fun tc h => Exists.elim h fun tl h => Exists.elim h fun wn h => Exists.elim h fun a h => Exists.elim h fun qfr h => Exists.elim h fun kp h => Exists.elim h fun buf h => Exists.elim h fun W h => Exists.elim h fun C h => Exists.elim h fun E h => Exists.elim h fun G h => Exists.elim h fun Y h => Exists.elim h fun qco h => Exists.elim h fun qpl h => Exists.elim h fun qcu h => Exists.elim h fun wb h => Exists.elim h fun ov h => k stl sc wc ord dur pau siz wor nam ns wi le re ex kn kt kr ks kd set hsz hol bl rec_ ea ren rat rsc rwc rord rdur rpau rsiz rwor rnam rns rwi rle rre rex rkn rkt rkr rks rkd rset text cc bw dn lea mos chg fir cat wrt cuc las sta dwy lef rig bc bcn pl cos tim cut spd cnt pn pb HI km th bn qsz qat qbe qkd qwr qwa qe qnu tc tl wn a qfr kp buf W C E G Y qco qpl qcu wb ov h.1 h.2
set_option maxHeartbeats 8000000 in
set_option maxRecDepth 100000 in
theorem lw_loop {p : Program} {l : Launch} {e : Env} {s : State} {m : MethodId} {below : List Frame} {meth : Method} {c : Code} {D : va_G} {cI cJ cZ cO : ClassId} {z : Nat → Nat} {bs L : Nat} {xs : Nat → Int32} {ha hh hb : Nat → Nat} {ho : Nat} (hlS : l.stackTraces = false)
    (hC0 : ∀ k n : Nat, k ≤ 601024 → n ≤ 7293034 → Gc p room_1 s m #[Value.ref bs] meth c D (gq_ty cI cJ cZ cO) (fun q : Nat => s.heap.size ≤ q) 7 cL_law RL lw_tbl ret k n z) (hX : va_X bs L xs s s.heap) (hbl : bs < s.heap.size) (hL : L ≤ 3072) :
    ∀ (N j k n : Nat) (ws : va_W), L + 6 - j ≤ N → j ≤ L → k + 4 * (L + 6 - j) ≤ 601024 → n + 24 * (L + 6 - j) ≤ 7293034 → LI cI cJ cZ cO ha hh hb ho ws →
      Gx p l e room_1 s m #[Value.ref bs] below meth c D (fun q : Nat => s.heap.size ≤ q) 7 (lw_Z below #[Value.ref bs] s) k n 23 [(4, .int (nI j)), (3, .ref ho), (2, .ref (hb 0)), (1, .ref (ha 0)), (0, .ref bs)] [] ws := by
  have hbA : ¬ (fun q : Nat => s.heap.size ≤ q) bs := Nat.not_le.mpr hbl
  intro N
  induction N with
  | zero => intro j k n ws hN hj; omega
  | succ N ih =>
    intro j k n ws hN hj hk hn hI
    have hC := hC0 k n (by omega) (by omega)
    refine gq_iload hC 0 dL_law_23 rfl ?_
    refine gq_aload_n hC 4 dL_law_25 rfl rfl ?_
    refine gq_scrn hC hX hbl hbA dL_law_26 ?_
    refine gq_bipush hC 6 dL_law_27 (by decide) ?_
    refine gq_isub hC dL_law_29 ?_
    refine gq_icmp_gt hC 2649 dL_law_30 (by decide) (fun _ => ?_) (fun h9 => ?_)
    · refine gq_iconst hC 1 dL_law_2649 (by decide) ?_
      intro H locs ls hP hD hS hl
      exact va_forget (fun q hq => hS.2.2 q hq) (W.widen (by omega) (by omega) (lw_ret hC.1 hC.2.1 hC.2.2.2.2.2.2.2.2.1 hC.2.2.2.2.2.2.2.2.2.1 dL_law_2650))
    · have h6 : j + 6 ≤ L := by
        rw [show (Int32.ofNat L : Int32) = nI L from rfl, show (6 : Int32) = nI 6 from by decide, nI_iSub, iI_n j, iI_lt (by omega) (by omega) (by omega) (by omega)] at h9
        omega
      have hi (t : Nat) (ht : t ≤ 5) : vp_in (nI (j + t)) L := vp_in_nI (by omega) (by omega)
      have hi1 : vp_in (nI j + 1) L := by have h := hi 1 (by omega); rwa [show nI (j + 1) = nI j + 1 from (nI_1 j).symm] at h
      have ea (t : Nat) : nI j + nI t = nI (j + t) := by rw [iI_n j, iI_n t, iI_add, iI_n]; congr 1
      have hi2 : vp_in (nI j + 2) L := by have h := hi 2 (by omega); rw [← ea 2] at h; exact h
      have hi3 : vp_in (nI j + 3) L := by have h := hi 3 (by omega); rw [← ea 3] at h; exact h
      have hi4 : vp_in (nI j + 4) L := by have h := hi 4 (by omega); rw [← ea 4] at h; exact h
      have hi5 : vp_in (nI j + 5) L := by have h := hi 5 (by omega); rw [← ea 5] at h; exact h
      refine gq_aload_n hC 4 dL_law_33 rfl rfl ?_
      refine gq_iload hC 0 dL_law_34 rfl ?_
      refine gq_scr hC hX hbl hbA (hi 0 (by omega)) dL_law_36 ?_
      refine gq_bipush hC 63 dL_law_37 (by decide) ?_
      refine gq_iand hC dL_law_39 ?_
      have hkb : k + 4 ≤ 601024 ∧ n + 24 ≤ 7293034 := by omega
      have kk : ∀ ws2 : va_W, LI cI cJ cZ cO ha hh hb ho ws2 → Gx p l e room_1 s m #[Value.ref bs] below meth c D (fun q : Nat => s.heap.size ≤ q) 7 (lw_Z below #[Value.ref bs] s) (k + 4) (n + 24) 2643 [(4, .int (nI j)), (3, .ref ho), (2, .ref (hb 0)), (1, .ref (ha 0)), (0, .ref bs)] [] ws2 := fun ws2 h2 => by
        have hC := hC0 (k + 4) (n + 24) (by omega) (by omega)
        refine gq_iinc hC 0 (nI (j + 6)) [(4, .int (nI (j + 6))), (3, .ref ho), (2, .ref (hb 0)), (1, .ref (ha 0)), (0, .ref bs)] dL_law_2643 rfl (ea 6) (by decide) rfl ?_
        refine gq_goto hC 23 dL_law_2646 (by decide) ?_
        exact ih (j + 6) (k + 4) (n + 24) ws2 (by omega) (by omega) (by omega) (by omega) h2
      refine LI.elim hI (fun stl sc wc ord dur pau siz wor nam ns wi le re ex kn kt kr ks kd set hsz hol bl rec_ ea ren rat rsc rwc rord rdur rpau rsiz rwor rnam rns rwi rle rre rex rkn rkt rkr rks rkd rset text cc bw dn lea mos chg fir cat wrt cuc las sta dwy lef rig bc bcn pl cos tim cut spd cnt pn pb HI km th bn qsz qat qbe qkd qwr qwa qe qnu tc tl wn a qfr kp buf W C E G Y qco qpl qcu wb ov hrel e9 => ?_)
      subst e9
      obtain ⟨t, ht, hv⟩ := and63 (xs (nI j).toNatClampNeg)
      rcases (by omega : t = 0 ∨ t = 1 ∨ t = 2 ∨ t = 3 ∨ t = 4 ∨ t = 5 ∨ t = 6 ∨ t = 7 ∨ t = 8 ∨ t = 9 ∨ t = 10 ∨ t = 11 ∨ t = 12 ∨ t = 13 ∨ t = 14 ∨ t = 15 ∨ t = 16 ∨ t = 17 ∨ t = 18 ∨ t = 19 ∨ t = 20 ∨ t = 21 ∨ t = 22 ∨ t = 23 ∨ t = 24 ∨ t = 25 ∨ t = 26 ∨ t = 27 ∨ t = 28 ∨ t = 29 ∨ t = 30 ∨ t = 31 ∨ t = 32 ∨ t = 33 ∨ t = 34 ∨ t = 35 ∨ t = 36 ∨ t = 37 ∨ t = 38 ∨ t = 39 ∨ t = 40 ∨ t = 41 ∨ t = 42 ∨ 43 ≤ t) with rfl | rfl | rfl | rfl | rfl | rfl | rfl | rfl | rfl | rfl | rfl | rfl | rfl | rfl | rfl | rfl | rfl | rfl | rfl | rfl | rfl | rfl | rfl | rfl | rfl | rfl | rfl | rfl | rfl | rfl | rfl | rfl | rfl | rfl | rfl | rfl | rfl | rfl | rfl | rfl | rfl | rfl | rfl | h43
      · exact gq_tblIn hC (off := 188) (v := nI 0) 228 dL_law_40 hv (by decide +kernel) (by decide +kernel) (by decide +kernel) (by decide +kernel) (lc_append hlS hC hX hbl hbA hi1 hi2 hi3 hi4 hi5 hkb hrel kk)
      · exact gq_tblIn hC (off := 292) (v := nI 1) 332 dL_law_40 hv (by decide +kernel) (by decide +kernel) (by decide +kernel) (by decide +kernel) (lc_load hlS hC hX hbl hbA hi1 hi2 hi3 hi4 hi5 hkb hrel kk)
      · exact gq_tblIn hC (off := 348) (v := nI 2) 388 dL_law_40 hv (by decide +kernel) (by decide +kernel) (by decide +kernel) (by decide +kernel) (lc_errorPosition hlS hC hX hbl hbA hi1 hi2 hi3 hi4 hi5 hkb hrel kk)
      · exact gq_tblIn hC (off := 361) (v := nI 3) 401 dL_law_40 hv (by decide +kernel) (by decide +kernel) (by decide +kernel) (by decide +kernel) (lc_count hlS hC hX hbl hbA hi1 hi2 hi3 hi4 hi5 hkb hrel kk)
      · exact gq_tblIn hC (off := 417) (v := nI 4) 457 dL_law_40 hv (by decide +kernel) (by decide +kernel) (by decide +kernel) (by decide +kernel) (lc_setting hlS hC hX hbl hbA hi1 hi2 hi3 hi4 hi5 hkb hrel kk)
      · exact gq_tblIn hC (off := 473) (v := nI 5) 513 dL_law_40 hv (by decide +kernel) (by decide +kernel) (by decide +kernel) (by decide +kernel) (lc_set hlS hC hX hbl hbA hi1 hi2 hi3 hi4 hi5 hkb hrel kk)
      · exact gq_tblIn hC (off := 541) (v := nI 6) 581 dL_law_40 hv (by decide +kernel) (by decide +kernel) (by decide +kernel) (by decide +kernel) (lc_segment hlS hC hX hbl hbA hi1 hi2 hi3 hi4 hi5 hkb hrel kk)
      · exact gq_tblIn hC (off := 609) (v := nI 7) 649 dL_law_40 hv (by decide +kernel) (by decide +kernel) (by decide +kernel) (by decide +kernel) (lc_wordOf hlS hC hX hbl hbA hi1 hi2 hi3 hi4 hi5 hkb hrel kk)
      · exact gq_tblIn hC (off := 677) (v := nI 8) 717 dL_law_40 hv (by decide +kernel) (by decide +kernel) (by decide +kernel) (by decide +kernel) (lc_find hlS hC hX hbl hbA hi1 hi2 hi3 hi4 hi5 hkb hrel kk)
      · exact gq_tblIn hC (off := 734) (v := nI 9) 774 dL_law_40 hv (by decide +kernel) (by decide +kernel) (by decide +kernel) (by decide +kernel) (lc_uses hlS hC hX hbl hbA hi1 hi2 hi3 hi4 hi5 hkb hrel kk)
      · exact gq_tblIn hC (off := 814) (v := nI 10) 854 dL_law_40 hv (by decide +kernel) (by decide +kernel) (by decide +kernel) (by decide +kernel) (lc_setDuration hlS hC hX hbl hbA hi1 hi2 hi3 hi4 hi5 hkb hrel kk)
      · exact gq_tblIn hC (off := 882) (v := nI 11) 922 dL_law_40 hv (by decide +kernel) (by decide +kernel) (by decide +kernel) (by decide +kernel) (lc_setPause hlS hC hX hbl hbA hi1 hi2 hi3 hi4 hi5 hkb hrel kk)
      · exact gq_tblIn hC (off := 950) (v := nI 12) 990 dL_law_40 hv (by decide +kernel) (by decide +kernel) (by decide +kernel) (by decide +kernel) (lc_addWord hlS hC hX hbl hbA hi1 hi2 hi3 hi4 hi5 hkb hrel kk)
      · exact gq_tblIn hC (off := 1018) (v := nI 13) 1058 dL_law_40 hv (by decide +kernel) (by decide +kernel) (by decide +kernel) (by decide +kernel) (lc_removeSegment hlS hC hX hbl hbA hi1 hi2 hi3 hi4 hi5 hkb hrel kk)
      · exact gq_tblIn hC (off := 1074) (v := nI 14) 1114 dL_law_40 hv (by decide +kernel) (by decide +kernel) (by decide +kernel) (by decide +kernel) (lc_moveSegment hlS hC hX hbl hbA hi1 hi2 hi3 hi4 hi5 hkb hrel kk)
      · exact gq_tblIn hC (off := 1142) (v := nI 15) 1182 dL_law_40 hv (by decide +kernel) (by decide +kernel) (by decide +kernel) (by decide +kernel) (lc_segmentAt hlS hC hX hbl hbA hi1 hi2 hi3 hi4 hi5 hkb hrel kk)
      · exact gq_tblIn hC (off := 1167) (v := nI 16) 1207 dL_law_40 hv (by decide +kernel) (by decide +kernel) (by decide +kernel) (by decide +kernel) (lc_change hlS hC hX hbl hbA hi1 hi2 hi3 hi4 hi5 hkb hrel kk)
      · exact gq_tblIn hC (off := 1223) (v := nI 17) 1263 dL_law_40 hv (by decide +kernel) (by decide +kernel) (by decide +kernel) (by decide +kernel) (lc_chapters hlS hC hX hbl hbA hi1 hi2 hi3 hi4 hi5 hkb hrel kk)
      · exact gq_tblIn hC (off := 1236) (v := nI 18) 1276 dL_law_40 hv (by decide +kernel) (by decide +kernel) (by decide +kernel) (by decide +kernel) (lc_worth hlS hC hX hbl hbA hi1 hi2 hi3 hi4 hi5 hkb hrel kk)
      · exact gq_tblIn hC (off := 1280) (v := nI 19) 1320 dL_law_40 hv (by decide +kernel) (by decide +kernel) (by decide +kernel) (by decide +kernel) (lc_chapter hlS hC hX hbl hbA hi1 hi2 hi3 hi4 hi5 hkb hrel kk)
      · exact gq_tblIn hC (off := 1348) (v := nI 20) 1388 dL_law_40 hv (by decide +kernel) (by decide +kernel) (by decide +kernel) (by decide +kernel) (lc_chapterOf hlS hC hX hbl hbA hi1 hi2 hi3 hi4 hi5 hkb hrel kk)
      · exact gq_tblIn hC (off := 1404) (v := nI 21) 1444 dL_law_40 hv (by decide +kernel) (by decide +kernel) (by decide +kernel) (by decide +kernel) (lc_worthOf hlS hC hX hbl hbA hi1 hi2 hi3 hi4 hi5 hkb hrel kk)
      · exact gq_tblIn hC (off := 1460) (v := nI 22) 1500 dL_law_40 hv (by decide +kernel) (by decide +kernel) (by decide +kernel) (by decide +kernel) (lc_isAllowed hlS hC hX hbl hbA hi1 hi2 hi3 hi4 hi5 hkb hrel kk)
      · exact gq_tblIn hC (off := 1523) (v := nI 23) 1563 dL_law_40 hv (by decide +kernel) (by decide +kernel) (by decide +kernel) (by decide +kernel) (lc_divisions hlS hC hX hbl hbA hi1 hi2 hi3 hi4 hi5 hkb hrel kk)
      · exact gq_tblIn hC (off := 1537) (v := nI 24) 1577 dL_law_40 hv (by decide +kernel) (by decide +kernel) (by decide +kernel) (by decide +kernel) (lc_worthWith hlS hC hX hbl hbA hi1 hi2 hi3 hi4 hi5 hkb hrel kk)
      · exact gq_tblIn hC (off := 1621) (v := nI 25) 1661 dL_law_40 hv (by decide +kernel) (by decide +kernel) (by decide +kernel) (by decide +kernel) (lc_priceFor hlS hC hX hbl hbA hi1 hi2 hi3 hi4 hi5 hkb hrel kk)
      · exact gq_tblIn hC (off := 1677) (v := nI 26) 1717 dL_law_40 hv (by decide +kernel) (by decide +kernel) (by decide +kernel) (by decide +kernel) (lc_chaptersWith hlS hC hX hbl hbA hi1 hi2 hi3 hi4 hi5 hkb hrel kk)
      · exact gq_tblIn hC (off := 1733) (v := nI 27) 1773 dL_law_40 hv (by decide +kernel) (by decide +kernel) (by decide +kernel) (by decide +kernel) (lc_typical hlS hC hX hbl hbA hi1 hi2 hi3 hi4 hi5 hkb hrel kk)
      · exact gq_tblIn hC (off := 1789) (v := nI 28) 1829 dL_law_40 hv (by decide +kernel) (by decide +kernel) (by decide +kernel) (by decide +kernel) (lc_likeness hlS hC hX hbl hbA hi1 hi2 hi3 hi4 hi5 hkb hrel kk)
      · exact gq_tblIn hC (off := 1857) (v := nI 29) 1897 dL_law_40 hv (by decide +kernel) (by decide +kernel) (by decide +kernel) (by decide +kernel) (lc_mark hlS hC hX hbl hbA hi1 hi2 hi3 hi4 hi5 hkb hrel kk)
      · exact gq_tblIn hC (off := 1925) (v := nI 30) 1965 dL_law_40 hv (by decide +kernel) (by decide +kernel) (by decide +kernel) (by decide +kernel) (lc_title hlS hC hX hbl hbA hi1 hi2 hi3 hi4 hi5 hkb hrel kk)
      · exact gq_tblIn hC (off := 1993) (v := nI 31) 2033 dL_law_40 hv (by decide +kernel) (by decide +kernel) (by decide +kernel) (by decide +kernel) (lc_addSlot hlS hC hX hbl hbA hi1 hi2 hi3 hi4 hi5 hkb hrel kk)
      · exact gq_tblIn hC (off := 2073) (v := nI 32) 2113 dL_law_40 hv (by decide +kernel) (by decide +kernel) (by decide +kernel) (by decide +kernel) (lc_removeSlot hlS hC hX hbl hbA hi1 hi2 hi3 hi4 hi5 hkb hrel kk)
      · exact gq_tblIn hC (off := 2129) (v := nI 33) 2169 dL_law_40 hv (by decide +kernel) (by decide +kernel) (by decide +kernel) (by decide +kernel) (lc_moveSlot hlS hC hX hbl hbA hi1 hi2 hi3 hi4 hi5 hkb hrel kk)
      · exact gq_tblIn hC (off := 2197) (v := nI 34) 2237 dL_law_40 hv (by decide +kernel) (by decide +kernel) (by decide +kernel) (by decide +kernel) (lc_slot hlS hC hX hbl hbA hi1 hi2 hi3 hi4 hi5 hkb hrel kk)
      · exact gq_tblIn hC (off := 2265) (v := nI 35) 2305 dL_law_40 hv (by decide +kernel) (by decide +kernel) (by decide +kernel) (by decide +kernel) (lc_placeOf hlS hC hX hbl hbA hi1 hi2 hi3 hi4 hi5 hkb hrel kk)
      · exact gq_tblIn hC (off := 2321) (v := nI 36) 2361 dL_law_40 hv (by decide +kernel) (by decide +kernel) (by decide +kernel) (by decide +kernel) (lc_placementCost hlS hC hX hbl hbA hi1 hi2 hi3 hi4 hi5 hkb hrel kk)
      · exact gq_tblIn hC (off := 2334) (v := nI 37) 2374 dL_law_40 hv (by decide +kernel) (by decide +kernel) (by decide +kernel) (by decide +kernel) (lc_choices hlS hC hX hbl hbA hi1 hi2 hi3 hi4 hi5 hkb hrel kk)
      · exact gq_tblIn hC (off := 2390) (v := nI 38) 2430 dL_law_40 hv (by decide +kernel) (by decide +kernel) (by decide +kernel) (by decide +kernel) (lc_keep hlS hC hX hbl hbA hi1 hi2 hi3 hi4 hi5 hkb hrel kk)
      · exact gq_tblIn hC (off := 2403) (v := nI 39) 2443 dL_law_40 hv (by decide +kernel) (by decide +kernel) (by decide +kernel) (by decide +kernel) (lc_carried hlS hC hX hbl hbA hi1 hi2 hi3 hi4 hi5 hkb hrel kk)
      · exact gq_tblIn hC (off := 2459) (v := nI 40) 2499 dL_law_40 hv (by decide +kernel) (by decide +kernel) (by decide +kernel) (by decide +kernel) (lc_writeChapters hlS hC hX hbl hbA hi1 hi2 hi3 hi4 hi5 hkb hrel kk)
      · exact gq_tblIn hC (off := 2503) (v := nI 41) 2543 dL_law_40 hv (by decide +kernel) (by decide +kernel) (by decide +kernel) (by decide +kernel) (lc_writtenByte hlS hC hX hbl hbA hi1 hi2 hi3 hi4 hi5 hkb hrel kk)
      · exact gq_tblIn hC (off := 2559) (v := nI 42) 2599 dL_law_40 hv (by decide +kernel) (by decide +kernel) (by decide +kernel) (by decide +kernel) (lc_undo hlS hC hX hbl hbA hi1 hi2 hi3 hi4 hi5 hkb hrel kk)
      · refine gq_tblOut hC 2643 dL_law_40 (Or.inr ?_) (by decide) (gq_widen (by omega) (by omega) (kk _ hI))
        rw [hv, nI_toInt (by omega)]
        omega
