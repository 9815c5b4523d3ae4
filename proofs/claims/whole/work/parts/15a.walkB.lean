def F_X10_append (x1 : Int32) (x2 : Int32) (x3 : Int32) (x4 : Int32) (x5 : Int32) (v_reader_bufferLength : Int32) (v_reader_text : Nat → Int32) : Option ((Nat ⊕ Int32) × (Int32) × (Nat → Int32)) := ob1 (F_X5_hasRoom v_reader_bufferLength) (fun r_1 => if r_1 = 0 then (some (.inl 1, v_reader_bufferLength, v_reader_text)) else (ob2 (F_X5_takeBytes x1 v_reader_bufferLength v_reader_text) (fun v_reader_bufferLength_2 v_reader_text_3 => ob2 (F_X5_takeBytes x2 v_reader_bufferLength_2 v_reader_text_3) (fun v_reader_bufferLength_4 v_reader_text_5 => ob2 (F_X5_takeBytes x3 v_reader_bufferLength_4 v_reader_text_5) (fun v_reader_bufferLength_6 v_reader_text_7 => ob2 (F_X5_takeBytes x4 v_reader_bufferLength_6 v_reader_text_7) (fun v_reader_bufferLength_8 v_reader_text_9 => ob2 (F_X5_takeBytes x5 v_reader_bufferLength_8 v_reader_text_9) (fun v_reader_bufferLength_10 v_reader_text_11 => some (.inr v_reader_bufferLength_10, v_reader_bufferLength_10, v_reader_text_11))))))))
def F_X10_errorPosition (v_reader_errorAt : Int32) : Option (Int32) := some v_reader_errorAt
def F_X10_count (x1 : Int32) (v_show_transcript_segmentCount : Int32) (v_show_transcript_wordCount : Int32) (v_show_transcript_order : Nat → Int32) (v_show_transcript_durations : Nat → Int32) (v_show_transcript_pauses : Nat → Int32) (v_show_transcript_sizes : Nat → Int32) (v_show_slots_slotCount : Int32) (v_show_settings : Nat → Int32) : Option ((Nat ⊕ Int32)) := if x1 = 0 then (some (.inr v_show_transcript_segmentCount)) else (if x1 = 1 then (some (.inr v_show_transcript_wordCount)) else (if x1 = 2 then (some (.inr v_show_slots_slotCount)) else (if x1 = 3 then (ob1 (F_X9_startOf v_show_transcript_segmentCount v_show_transcript_order v_show_transcript_durations) (fun r_10 => some (.inr r_10))) else (if x1 = 4 then (ob1 (F_X9_allWords v_show_transcript_segmentCount v_show_transcript_order v_show_transcript_sizes) (fun r_9 => some (.inr r_9))) else (if x1 = 5 then (gi (4 : Int32) 6 (ob1 (F_X9_longPauses (v_show_settings (4 : Int32).toNatClampNeg) v_show_transcript_segmentCount v_show_transcript_order v_show_transcript_pauses) (fun r_8 => some (.inr r_8)))) else (some (.inl 2)))))))
def F_X10_requireSetting_b10  : Option ((Nat ⊕ Unit)) := some (.inl 3)
def F_X10_requireSetting (x1 : Int32) : Option ((Nat ⊕ Unit)) := if x1 < 0 then (F_X10_requireSetting_b10 ) else (if x1 < (6 : Int32) then (some (.inr ())) else (F_X10_requireSetting_b10 ))
def F_X10_setting (x1 : Int32) (v_show_settings : Nat → Int32) : Option ((Nat ⊕ Int32)) := ob1 (F_X10_requireSetting x1) (fun x_1 => xo x_1 (fun c_2 => some (.inl c_2)) (fun r_3 => gi x1 6 (some (.inr (v_show_settings x1.toNatClampNeg)))))
def F_X10_find (x1 : Int64) (v_show_transcript_wordCount : Int32) (v_show_transcript_names : Nat → Int64) : Option (Int32) := ob1 (F_X9_numberOf x1 v_show_transcript_wordCount v_show_transcript_names) (fun r_1 => some r_1)
def F_X10_requireSegment_b18  : Option ((Nat ⊕ Unit)) := some (.inl 3)
def F_X10_requireSegment (x1 : Int32) (v_show_transcript_segmentCount : Int32) : Option ((Nat ⊕ Unit)) := if x1 < 0 then (F_X10_requireSegment_b18 ) else (if x1 < v_show_transcript_segmentCount then (some (.inr ())) else (F_X10_requireSegment_b18 ))
def F_X10_wordOf_b24  : Option ((Nat ⊕ Int32)) := some (.inl 3)
def F_X10_wordOf (x1 : Int32) (x2 : Int32) (v_show_transcript_segmentCount : Int32) (v_show_transcript_order : Nat → Int32) (v_show_transcript_sizes : Nat → Int32) (v_show_transcript_words : Nat → Int32) : Option ((Nat ⊕ Int32)) := ob1 (F_X10_requireSegment x1 v_show_transcript_segmentCount) (fun x_1 => xo x_1 (fun c_2 => some (.inl c_2)) (fun r_3 => if x2 < 0 then (F_X10_wordOf_b24 ) else (ob1 (F_X9_sizeOf x1 v_show_transcript_order v_show_transcript_sizes) (fun r_4 => if x2 < r_4 then (ob1 (F_X9_wordAt x1 x2 v_show_transcript_order v_show_transcript_words) (fun r_5 => some (.inr r_5))) else (F_X10_wordOf_b24 )))))
def F_X10_requireWord_b18  : Option ((Nat ⊕ Unit)) := some (.inl 3)
def F_X10_requireWord (x1 : Int32) (v_show_transcript_wordCount : Int32) : Option ((Nat ⊕ Unit)) := if x1 < 0 then (F_X10_requireWord_b18 ) else (if x1 < v_show_transcript_wordCount then (some (.inr ())) else (F_X10_requireWord_b18 ))
def F_X10_uses (x1 : Int32) (x2 : Int32) (x3 : Int32) (v_show_transcript_segmentCount : Int32) (v_show_transcript_wordCount : Int32) (v_show_transcript_order : Nat → Int32) (v_show_transcript_sizes : Nat → Int32) (v_show_transcript_words : Nat → Int32) : Option ((Nat ⊕ Int32)) := ob1 (F_X10_requireWord x1 v_show_transcript_wordCount) (fun x_1 => xo x_1 (fun c_2 => some (.inl c_2)) (fun r_3 => ob1 (F_X10_requireSegment x2 v_show_transcript_segmentCount) (fun x_4 => xo x_4 (fun c_5 => some (.inl c_5)) (fun r_6 => ob1 (F_X10_requireSegment x3 v_show_transcript_segmentCount) (fun x_7 => xo x_7 (fun c_8 => some (.inl c_8)) (fun r_9 => if x2 ≤ x3 then (ob1 (F_X9_countIn x1 x2 x3 v_show_transcript_order v_show_transcript_sizes v_show_transcript_words) (fun r_10 => some (.inr r_10))) else (some (.inl 2))))))))
def F_X10_segmentAt (x1 : Int32) (v_show_transcript_segmentCount : Int32) (v_show_transcript_order : Nat → Int32) (v_show_transcript_durations : Nat → Int32) : Option (Int32) := ob1 (F_X9_segmentSpokenAt x1 v_show_transcript_segmentCount v_show_transcript_order v_show_transcript_durations) (fun r_1 => some r_1)
def F_X10_requireSlot_b18  : Option ((Nat ⊕ Unit)) := some (.inl 3)
def F_X10_requireSlot (x1 : Int32) (v_show_slots_slotCount : Int32) : Option ((Nat ⊕ Unit)) := if x1 < 0 then (F_X10_requireSlot_b18 ) else (if x1 < v_show_slots_slotCount then (some (.inr ())) else (F_X10_requireSlot_b18 ))
def F_X10_slot (x1 : Int32) (x2 : Int32) (v_show_slots_slotCount : Int32) (v_show_slots_wishes : Nat → Int32) (v_show_slots_lengths : Nat → Int32) (v_show_slots_reaches : Nat → Int32) : Option ((Nat ⊕ Int32)) := ob1 (F_X10_requireSlot x1 v_show_slots_slotCount) (fun x_1 => xo x_1 (fun c_2 => some (.inl c_2)) (fun r_3 => if x2 = 0 then (gi x1 5 (some (.inr (v_show_slots_wishes x1.toNatClampNeg)))) else (if x2 = 1 then (gi x1 5 (some (.inr (v_show_slots_lengths x1.toNatClampNeg)))) else (if x2 = 2 then (gi x1 5 (some (.inr (v_show_slots_reaches x1.toNatClampNeg)))) else (some (.inl 2))))))
def F_X10_requireRange_b10  : Option ((Nat ⊕ Unit)) := some (.inl 2)
def F_X10_requireRange (x1 : Int32) (x2 : Int32) (x3 : Int32) : Option ((Nat ⊕ Unit)) := if x1 < x2 then (F_X10_requireRange_b10 ) else (if x1 ≤ x3 then (some (.inr ())) else (F_X10_requireRange_b10 ))
def F_X10_carried (x1 : Int32) (v_show_transcript_segmentCount : Int32) (v_show_transcript_order : Nat → Int32) (v_show_transcript_durations : Nat → Int32) (v_show_kept_exists : Int32) (v_show_kept_segmentCount : Int32) (v_show_kept_total : Int32) (v_show_kept_rows : Nat → Int32) (v_show_kept_starts : Nat → Int32) (v_show_kept_durations : Nat → Int32) : Option ((Nat ⊕ Int32)) := if v_show_kept_exists = 0 then (some (.inl 1)) else (ob1 (F_X10_requireRange x1 (0 : Int32) (v_show_kept_total - (1 : Int32))) (fun x_1 => xo x_1 (fun c_2 => some (.inl c_2)) (fun r_3 => ob1 (F_X2_carry x1 v_show_kept_segmentCount v_show_kept_rows v_show_kept_starts v_show_kept_durations v_show_transcript_segmentCount v_show_transcript_order v_show_transcript_durations) (fun r_4 => some (.inr r_4)))))
def F_X10_writtenByte_b15  : Option ((Nat ⊕ Int32)) := some (.inl 3)
def F_X10_writtenByte (x1 : Int32) (v_page_length : Int32) (v_page_bytes : Nat → Int32) : Option ((Nat ⊕ Int32)) := if x1 < 0 then (F_X10_writtenByte_b15 ) else (if x1 < v_page_length then (gi x1 1056 (some (.inr (v_page_bytes x1.toNatClampNeg)))) else (F_X10_writtenByte_b15 ))
theorem hy_X10_append : yX10_append.cls = RX10 ∧ yX10_append.cls ≠ "java/lang/invoke/MethodHandle" ∧ yX10_append.cls ≠ "java/lang/invoke/VarHandle" ∧ (parseMethodDescriptor yX10_append.desc).map (fun d => d.parameters.length) = some 5 := by decide +kernel
set_option maxRecDepth 20000 in
set_option maxHeartbeats 4000000 in
theorem k_X10_append (l : Launch) (hl : l.stackTraces = false) (D : va_G) (cI cJ cZ cO : ClassId) (z : Nat → Nat)  (h_t_ : Nat) (h_reader : Nat) (h_reader_text : Nat) (h_show : Nat) (h_history : Nat) (h_division : Nat) (h_placement : Nat) (h_titles : Nat) (h_page : Nat) (h_reader_draft : Nat) (x1 : Int32) (x2 : Int32) (x3 : Int32) (x4 : Int32) (x5 : Int32) (v_stale : Int32) (v_reader_bufferLength : Int32) (v_reader_errorCode : Int32) (v_reader_errorAt : Int32) (v_reader_end : Int32) (v_reader_at : Int32) (v_reader_text : Nat → Int32) (r_ : (Nat ⊕ Int32)) (w_reader_bufferLength : Int32) (w_reader_text : Nat → Int32) (hF : F_X10_append x1 x2 x3 x4 x5 v_reader_bufferLength v_reader_text = some (r_, w_reader_bufferLength, w_reader_text)) : Xi l yX10_append wsX10_append (rmX 6 1) D (gq_ty cI cJ cZ cO) z [.ref h_t_, .int x1, .int x2, .int x3, .int x4, .int x5] [(h_t_, .inr (10, [.ref h_show, .ref h_history, .ref h_reader, .ref h_division, .ref h_placement, .ref h_titles, .ref h_page, .int v_stale])), (h_reader, .inr (5, [.int v_reader_bufferLength, .int v_reader_errorCode, .int v_reader_errorAt, .ref h_reader_draft, .ref h_reader_text, .int v_reader_end, .int v_reader_at])), (h_reader_text, .inl (cI, 900, .inl v_reader_text))] r_ [(h_t_, .inr (10, [.ref h_show, .ref h_history, .ref h_reader, .ref h_division, .ref h_placement, .ref h_titles, .ref h_page, .int v_stale])), (h_reader, .inr (5, [.int w_reader_bufferLength, .int v_reader_errorCode, .int v_reader_errorAt, .ref h_reader_draft, .ref h_reader_text, .int v_reader_end, .int v_reader_at])), (h_reader_text, .inl (cI, 900, .inl w_reader_text))] 1 6 := by
  refine Xi.of (cc := cX10_append) (maxL := 6) (by decide) rfl (Nat.le_of_ble_eq_true rfl) ?_
  intro p e s m args below meth c A hC hex
  have hin_X10 : ∀ w ∈ wsX100, w ∈ wsX10_append := fun w h => List.mem_cons_of_mem _ (List.mem_append_left _ (List.mem_append_left _ (List.mem_append_right _ h)))
  have hin_X5 : ∀ w ∈ wsX50, w ∈ wsX10_append := fun w h => List.mem_cons_of_mem _ (List.mem_append_left _ (List.mem_append_right _ h))
  have hw_26 : Cond.fieldLink RX10 26 (TX10 2).1 (TX10 2).2.1 (TX10 2).2.2.1 ∈ wsX10_append := (List.mem_of_getElem? (i := 3) rfl)
  have hw_77 : Cond.fieldLink RX10 77 (TX5 0).1 (TX5 0).2.1 (TX5 0).2.2.1 ∈ wsX10_append := (List.mem_of_getElem? (i := 4) rfl)
  obtain ⟨Q, hQ⟩ : ∃ Q, Q = gq_Xi below D A args s r_ [(h_t_, .inr (10, [.ref h_show, .ref h_history, .ref h_reader, .ref h_division, .ref h_placement, .ref h_titles, .ref h_page, .int v_stale])), (h_reader, .inr (5, [.int w_reader_bufferLength, .int v_reader_errorCode, .int v_reader_errorAt, .ref h_reader_draft, .ref h_reader_text, .int v_reader_end, .int v_reader_at])), (h_reader_text, .inl (cI, 900, .inl w_reader_text))] 1 6 := ⟨_, rfl⟩
  rw [← hQ]
  refine gq_loc [(0, .ref h_t_), (1, .int x1), (2, .int x2), (3, .int x3), (4, .int x4), (5, .int x5)] rfl ?_
  unfold F_X10_append at hF
  refine gq_aload_n hC 0 dX10_append_0 rfl rfl ?_
  refine gq_get hC (kf := 2) 0 hin_X10 rfl rfl (by decide) hw_26 rfl dX10_append_1 ?_
  obtain ⟨r_1, hc_, hF⟩ := ob1_e hF
  refine gq_callVi hC [1] [(h_t_, .inr (10, [.ref h_show, .ref h_history, .ref h_reader, .ref h_division, .ref h_placement, .ref h_titles, .ref h_page, .int v_stale])), (h_reader, .inr (5, [.int v_reader_bufferLength, .int v_reader_errorCode, .int v_reader_errorAt, .ref h_reader_draft, .ref h_reader_text, .int v_reader_end, .int v_reader_at])), (h_reader_text, .inl (cI, 900, .inl v_reader_text))] [] [] (k_X5_hasRoom l D cI cJ cZ cO z h_reader h_reader_draft h_reader_text v_reader_bufferLength v_reader_errorCode v_reader_errorAt v_reader_end v_reader_at r_1 hc_) gX10_append_X5_hasRoom rfl ⟨rfl, rfl⟩ hy_X5_hasRoom ⟨Nat.le_of_ble_eq_true rfl, Nat.le_of_ble_eq_true rfl⟩ rfl rfl rfl (q0 := 0) rfl rfl rfl (Nat.le_of_ble_eq_true rfl) rfl dX10_append_4 rfl rfl ?_
  refine gq_if_ne hC 20 dX10_append_7 (by decide) (fun hc_12 => ?_) (fun hc_12 => ?_)
  · have hF := (if_neg hc_12).symm.trans hF
    refine gq_aload_n hC 0 dX10_append_20 rfl rfl ?_
    refine gq_get hC (kf := 2) 0 hin_X10 rfl rfl (by decide) hw_26 rfl dX10_append_21 ?_
    refine gq_iload_n hC 1 dX10_append_24 rfl rfl ?_
    obtain ⟨v_reader_bufferLength_2, v_reader_text_3, hc_, hF⟩ := ob2_e hF
    refine gq_callVv hC [1, 2] [(h_t_, .inr (10, [.ref h_show, .ref h_history, .ref h_reader, .ref h_division, .ref h_placement, .ref h_titles, .ref h_page, .int v_stale])), (h_reader, .inr (5, [.int v_reader_bufferLength_2, .int v_reader_errorCode, .int v_reader_errorAt, .ref h_reader_draft, .ref h_reader_text, .int v_reader_end, .int v_reader_at])), (h_reader_text, .inl (cI, 900, .inl v_reader_text_3))] [.int x1] [] (k_X5_takeBytes l D cI cJ cZ cO z h_reader h_reader_text h_reader_draft x1 v_reader_bufferLength v_reader_errorCode v_reader_errorAt v_reader_end v_reader_at v_reader_text v_reader_bufferLength_2 v_reader_text_3 hc_) gX10_append_X5_takeBytes rfl ⟨rfl, rfl⟩ hy_X5_takeBytes ⟨Nat.le_of_ble_eq_true rfl, Nat.le_of_ble_eq_true rfl⟩ rfl rfl rfl (q0 := 0) rfl rfl rfl (Nat.le_of_ble_eq_true rfl) rfl dX10_append_25 rfl rfl ?_
    refine gq_aload_n hC 0 dX10_append_28 rfl rfl ?_
    refine gq_get hC (kf := 2) 0 hin_X10 rfl rfl (by decide) hw_26 rfl dX10_append_29 ?_
    refine gq_iload_n hC 2 dX10_append_32 rfl rfl ?_
    obtain ⟨v_reader_bufferLength_4, v_reader_text_5, hc_, hF⟩ := ob2_e hF
    refine gq_callVv hC [1, 2] [(h_t_, .inr (10, [.ref h_show, .ref h_history, .ref h_reader, .ref h_division, .ref h_placement, .ref h_titles, .ref h_page, .int v_stale])), (h_reader, .inr (5, [.int v_reader_bufferLength_4, .int v_reader_errorCode, .int v_reader_errorAt, .ref h_reader_draft, .ref h_reader_text, .int v_reader_end, .int v_reader_at])), (h_reader_text, .inl (cI, 900, .inl v_reader_text_5))] [.int x2] [] (k_X5_takeBytes l D cI cJ cZ cO z h_reader h_reader_text h_reader_draft x2 v_reader_bufferLength_2 v_reader_errorCode v_reader_errorAt v_reader_end v_reader_at v_reader_text_3 v_reader_bufferLength_4 v_reader_text_5 hc_) gX10_append_X5_takeBytes rfl ⟨rfl, rfl⟩ hy_X5_takeBytes ⟨Nat.le_of_ble_eq_true rfl, Nat.le_of_ble_eq_true rfl⟩ rfl rfl rfl (q0 := 0) rfl rfl rfl (Nat.le_of_ble_eq_true rfl) rfl dX10_append_33 rfl rfl ?_
    refine gq_aload_n hC 0 dX10_append_36 rfl rfl ?_
    refine gq_get hC (kf := 2) 0 hin_X10 rfl rfl (by decide) hw_26 rfl dX10_append_37 ?_
    refine gq_iload_n hC 3 dX10_append_40 rfl rfl ?_
    obtain ⟨v_reader_bufferLength_6, v_reader_text_7, hc_, hF⟩ := ob2_e hF
    refine gq_callVv hC [1, 2] [(h_t_, .inr (10, [.ref h_show, .ref h_history, .ref h_reader, .ref h_division, .ref h_placement, .ref h_titles, .ref h_page, .int v_stale])), (h_reader, .inr (5, [.int v_reader_bufferLength_6, .int v_reader_errorCode, .int v_reader_errorAt, .ref h_reader_draft, .ref h_reader_text, .int v_reader_end, .int v_reader_at])), (h_reader_text, .inl (cI, 900, .inl v_reader_text_7))] [.int x3] [] (k_X5_takeBytes l D cI cJ cZ cO z h_reader h_reader_text h_reader_draft x3 v_reader_bufferLength_4 v_reader_errorCode v_reader_errorAt v_reader_end v_reader_at v_reader_text_5 v_reader_bufferLength_6 v_reader_text_7 hc_) gX10_append_X5_takeBytes rfl ⟨rfl, rfl⟩ hy_X5_takeBytes ⟨Nat.le_of_ble_eq_true rfl, Nat.le_of_ble_eq_true rfl⟩ rfl rfl rfl (q0 := 0) rfl rfl rfl (Nat.le_of_ble_eq_true rfl) rfl dX10_append_41 rfl rfl ?_
    refine gq_aload_n hC 0 dX10_append_44 rfl rfl ?_
    refine gq_get hC (kf := 2) 0 hin_X10 rfl rfl (by decide) hw_26 rfl dX10_append_45 ?_
    refine gq_iload hC 4 dX10_append_48 rfl ?_
    obtain ⟨v_reader_bufferLength_8, v_reader_text_9, hc_, hF⟩ := ob2_e hF
    refine gq_callVv hC [1, 2] [(h_t_, .inr (10, [.ref h_show, .ref h_history, .ref h_reader, .ref h_division, .ref h_placement, .ref h_titles, .ref h_page, .int v_stale])), (h_reader, .inr (5, [.int v_reader_bufferLength_8, .int v_reader_errorCode, .int v_reader_errorAt, .ref h_reader_draft, .ref h_reader_text, .int v_reader_end, .int v_reader_at])), (h_reader_text, .inl (cI, 900, .inl v_reader_text_9))] [.int x4] [] (k_X5_takeBytes l D cI cJ cZ cO z h_reader h_reader_text h_reader_draft x4 v_reader_bufferLength_6 v_reader_errorCode v_reader_errorAt v_reader_end v_reader_at v_reader_text_7 v_reader_bufferLength_8 v_reader_text_9 hc_) gX10_append_X5_takeBytes rfl ⟨rfl, rfl⟩ hy_X5_takeBytes ⟨Nat.le_of_ble_eq_true rfl, Nat.le_of_ble_eq_true rfl⟩ rfl rfl rfl (q0 := 0) rfl rfl rfl (Nat.le_of_ble_eq_true rfl) rfl dX10_append_50 rfl rfl ?_
    refine gq_aload_n hC 0 dX10_append_53 rfl rfl ?_
    refine gq_get hC (kf := 2) 0 hin_X10 rfl rfl (by decide) hw_26 rfl dX10_append_54 ?_
    refine gq_iload hC 5 dX10_append_57 rfl ?_
    obtain ⟨v_reader_bufferLength_10, v_reader_text_11, hc_, hF⟩ := ob2_e hF
    refine gq_callVv hC [1, 2] [(h_t_, .inr (10, [.ref h_show, .ref h_history, .ref h_reader, .ref h_division, .ref h_placement, .ref h_titles, .ref h_page, .int v_stale])), (h_reader, .inr (5, [.int v_reader_bufferLength_10, .int v_reader_errorCode, .int v_reader_errorAt, .ref h_reader_draft, .ref h_reader_text, .int v_reader_end, .int v_reader_at])), (h_reader_text, .inl (cI, 900, .inl v_reader_text_11))] [.int x5] [] (k_X5_takeBytes l D cI cJ cZ cO z h_reader h_reader_text h_reader_draft x5 v_reader_bufferLength_8 v_reader_errorCode v_reader_errorAt v_reader_end v_reader_at v_reader_text_9 v_reader_bufferLength_10 v_reader_text_11 hc_) gX10_append_X5_takeBytes rfl ⟨rfl, rfl⟩ hy_X5_takeBytes ⟨Nat.le_of_ble_eq_true rfl, Nat.le_of_ble_eq_true rfl⟩ rfl rfl rfl (q0 := 0) rfl rfl rfl (Nat.le_of_ble_eq_true rfl) rfl dX10_append_59 rfl rfl ?_
    refine gq_aload_n hC 0 dX10_append_62 rfl rfl ?_
    refine gq_get hC (kf := 2) 0 hin_X10 rfl rfl (by decide) hw_26 rfl dX10_append_63 ?_
    refine gq_get hC (kf := 0) 1 hin_X5 rfl rfl (by decide) hw_77 rfl dX10_append_66 ?_
    cases hF
    rw [hQ]
    exact gq_xiret hC (Nat.le_of_ble_eq_true rfl) (Nat.le_of_ble_eq_true rfl) rfl dX10_append_69
  · have hF := (if_pos hc_12).symm.trans hF
    cases hF
    rw [hQ]
    exact gq_throwS (code := 1) (text := "the text buffer is full") hC hex hl (by decide +kernel) ⟨(List.mem_of_getElem? (i := 1) rfl), (List.mem_of_getElem? (i := 2) rfl)⟩ ⟨by decide +kernel, by decide +kernel⟩ (by decide +kernel) hat_1 dX10_append_10 dX10_append_13 dX10_append_14 dX10_append_16 dX10_append_19 ⟨Nat.le_of_ble_eq_true rfl, Nat.le_of_ble_eq_true rfl, Nat.le_of_ble_eq_true rfl, Nat.le_of_ble_eq_true rfl⟩ rfl (Nat.le_of_ble_eq_true rfl) (Nat.le_of_ble_eq_true rfl)
theorem hy_X10_errorPosition : yX10_errorPosition.cls = RX10 ∧ yX10_errorPosition.cls ≠ "java/lang/invoke/MethodHandle" ∧ yX10_errorPosition.cls ≠ "java/lang/invoke/VarHandle" ∧ (parseMethodDescriptor yX10_errorPosition.desc).map (fun d => d.parameters.length) = some 0 := by decide +kernel
set_option maxRecDepth 20000 in
set_option maxHeartbeats 4000000 in
theorem k_X10_errorPosition (l : Launch) (D : va_G) (cI cJ cZ cO : ClassId) (z : Nat → Nat)   (h_t_ : Nat) (h_reader : Nat) (h_show : Nat) (h_history : Nat) (h_division : Nat) (h_placement : Nat) (h_titles : Nat) (h_page : Nat) (h_reader_draft : Nat) (h_reader_text : Nat)  (v_stale : Int32) (v_reader_bufferLength : Int32) (v_reader_errorCode : Int32) (v_reader_errorAt : Int32) (v_reader_end : Int32) (v_reader_at : Int32) (r_ : Int32) (hF : F_X10_errorPosition v_reader_errorAt = some r_) : Mi l yX10_errorPosition wsX10_errorPosition (rmD 0) D (gq_ty cI cJ cZ cO) z [.ref h_t_] [(h_t_, .inr (10, [.ref h_show, .ref h_history, .ref h_reader, .ref h_division, .ref h_placement, .ref h_titles, .ref h_page, .int v_stale])), (h_reader, .inr (5, [.int v_reader_bufferLength, .int v_reader_errorCode, .int v_reader_errorAt, .ref h_reader_draft, .ref h_reader_text, .int v_reader_end, .int v_reader_at]))] r_ [(h_t_, .inr (10, [.ref h_show, .ref h_history, .ref h_reader, .ref h_division, .ref h_placement, .ref h_titles, .ref h_page, .int v_stale])), (h_reader, .inr (5, [.int v_reader_bufferLength, .int v_reader_errorCode, .int v_reader_errorAt, .ref h_reader_draft, .ref h_reader_text, .int v_reader_end, .int v_reader_at]))] 0 0 := by
  refine Mi.of (cc := cX10_errorPosition) (maxL := 1) (by decide) rfl (Nat.le_of_ble_eq_true rfl) ⟨Nat.le_refl 0, Nat.le_refl 0⟩ ?_
  intro p e s m args below meth c A hC ha
  have hin_X10 : ∀ w ∈ wsX100, w ∈ wsX10_errorPosition := fun w h => List.mem_cons_of_mem _ (List.mem_append_left _ (List.mem_append_right _ h))
  have hin_X5 : ∀ w ∈ wsX50, w ∈ wsX10_errorPosition := fun w h => List.mem_cons_of_mem _ (List.mem_append_right _ h)
  have hw_26 : Cond.fieldLink RX10 26 (TX10 2).1 (TX10 2).2.1 (TX10 2).2.2.1 ∈ wsX10_errorPosition := (List.mem_of_getElem? (i := 1) rfl)
  have hw_111 : Cond.fieldLink RX10 111 (TX5 2).1 (TX5 2).2.1 (TX5 2).2.2.1 ∈ wsX10_errorPosition := (List.mem_of_getElem? (i := 2) rfl)
  obtain ⟨Q, hQ⟩ : ∃ Q, Q = gq_Qi below D A args s r_ [(h_t_, .inr (10, [.ref h_show, .ref h_history, .ref h_reader, .ref h_division, .ref h_placement, .ref h_titles, .ref h_page, .int v_stale])), (h_reader, .inr (5, [.int v_reader_bufferLength, .int v_reader_errorCode, .int v_reader_errorAt, .ref h_reader_draft, .ref h_reader_text, .int v_reader_end, .int v_reader_at]))] 0 0 := ⟨_, rfl⟩
  rw [← hQ]
  refine gq_loc [(0, .ref h_t_)] rfl ?_
  unfold F_X10_errorPosition at hF
  refine gq_aload_n hC 0 dX10_errorPosition_0 rfl rfl ?_
  refine gq_get hC (kf := 2) 0 hin_X10 rfl rfl (by decide) hw_26 rfl dX10_errorPosition_1 ?_
  refine gq_get hC (kf := 2) 1 hin_X5 rfl rfl (by decide) hw_111 rfl dX10_errorPosition_4 ?_
  cases hF
  rw [hQ]
  exact gq_iret hC rfl dX10_errorPosition_7
theorem hy_X10_count : yX10_count.cls = RX10 ∧ yX10_count.cls ≠ "java/lang/invoke/MethodHandle" ∧ yX10_count.cls ≠ "java/lang/invoke/VarHandle" ∧ (parseMethodDescriptor yX10_count.desc).map (fun d => d.parameters.length) = some 1 := by decide +kernel
set_option maxRecDepth 20000 in
set_option maxHeartbeats 4000000 in
theorem k_X10_count (l : Launch) (hl : l.stackTraces = false) (D : va_G) (cI cJ cZ cO : ClassId) (z : Nat → Nat)  (h_t_ : Nat) (h_show : Nat) (h_show_transcript : Nat) (h_show_transcript_order : Nat) (h_show_transcript_durations : Nat) (h_show_transcript_pauses : Nat) (h_show_transcript_sizes : Nat) (h_show_slots : Nat) (h_show_settings : Nat) (h_history : Nat) (h_reader : Nat) (h_division : Nat) (h_placement : Nat) (h_titles : Nat) (h_page : Nat) (h_show_kept : Nat) (h_show_transcript_words : Nat) (h_show_transcript_names : Nat) (h_show_slots_wishes : Nat) (h_show_slots_lengths : Nat) (h_show_slots_reaches : Nat) (x1 : Int32) (v_stale : Int32) (v_show_transcript_segmentCount : Int32) (v_show_transcript_wordCount : Int32) (v_show_transcript_order : Nat → Int32) (v_show_transcript_durations : Nat → Int32) (v_show_transcript_pauses : Nat → Int32) (v_show_transcript_sizes : Nat → Int32) (v_show_slots_slotCount : Int32) (v_show_settings : Nat → Int32) (r_ : (Nat ⊕ Int32)) (hF : F_X10_count x1 v_show_transcript_segmentCount v_show_transcript_wordCount v_show_transcript_order v_show_transcript_durations v_show_transcript_pauses v_show_transcript_sizes v_show_slots_slotCount v_show_settings = some r_) : Xi l yX10_count wsX10_count (rmX 6 1) D (gq_ty cI cJ cZ cO) z [.ref h_t_, .int x1] [(h_t_, .inr (10, [.ref h_show, .ref h_history, .ref h_reader, .ref h_division, .ref h_placement, .ref h_titles, .ref h_page, .int v_stale])), (h_show, .inr (6, [.ref h_show_transcript, .ref h_show_slots, .ref h_show_kept, .ref h_show_settings])), (h_show_transcript, .inr (9, [.int v_show_transcript_segmentCount, .int v_show_transcript_wordCount, .ref h_show_transcript_order, .ref h_show_transcript_durations, .ref h_show_transcript_pauses, .ref h_show_transcript_sizes, .ref h_show_transcript_words, .ref h_show_transcript_names])), (h_show_transcript_order, .inl (cI, 32, .inl v_show_transcript_order)), (h_show_transcript_durations, .inl (cI, 32, .inl v_show_transcript_durations)), (h_show_transcript_pauses, .inl (cI, 32, .inl v_show_transcript_pauses)), (h_show_transcript_sizes, .inl (cI, 32, .inl v_show_transcript_sizes)), (h_show_slots, .inr (7, [.int v_show_slots_slotCount, .ref h_show_slots_wishes, .ref h_show_slots_lengths, .ref h_show_slots_reaches])), (h_show_settings, .inl (cI, 6, .inl v_show_settings))] r_ [(h_t_, .inr (10, [.ref h_show, .ref h_history, .ref h_reader, .ref h_division, .ref h_placement, .ref h_titles, .ref h_page, .int v_stale])), (h_show, .inr (6, [.ref h_show_transcript, .ref h_show_slots, .ref h_show_kept, .ref h_show_settings])), (h_show_transcript, .inr (9, [.int v_show_transcript_segmentCount, .int v_show_transcript_wordCount, .ref h_show_transcript_order, .ref h_show_transcript_durations, .ref h_show_transcript_pauses, .ref h_show_transcript_sizes, .ref h_show_transcript_words, .ref h_show_transcript_names])), (h_show_transcript_order, .inl (cI, 32, .inl v_show_transcript_order)), (h_show_transcript_durations, .inl (cI, 32, .inl v_show_transcript_durations)), (h_show_transcript_pauses, .inl (cI, 32, .inl v_show_transcript_pauses)), (h_show_transcript_sizes, .inl (cI, 32, .inl v_show_transcript_sizes)), (h_show_slots, .inr (7, [.int v_show_slots_slotCount, .ref h_show_slots_wishes, .ref h_show_slots_lengths, .ref h_show_slots_reaches])), (h_show_settings, .inl (cI, 6, .inl v_show_settings))] 1 6 := by
  refine Xi.of (cc := cX10_count) (maxL := 3) (by decide) rfl (Nat.le_of_ble_eq_true rfl) ?_
  intro p e s m args below meth c A hC hex
  have hin_X10 : ∀ w ∈ wsX100, w ∈ wsX10_count := fun w h => List.mem_cons_of_mem _ (List.mem_append_left _ (List.mem_append_left _ (List.mem_append_left _ (List.mem_append_left _ (List.mem_append_right _ h)))))
  have hin_X6 : ∀ w ∈ wsX60, w ∈ wsX10_count := fun w h => List.mem_cons_of_mem _ (List.mem_append_left _ (List.mem_append_left _ (List.mem_append_left _ (List.mem_append_right _ h))))
  have hin_X7 : ∀ w ∈ wsX70, w ∈ wsX10_count := fun w h => List.mem_cons_of_mem _ (List.mem_append_left _ (List.mem_append_right _ h))
  have hin_X9 : ∀ w ∈ wsX90, w ∈ wsX10_count := fun w h => List.mem_cons_of_mem _ (List.mem_append_left _ (List.mem_append_left _ (List.mem_append_right _ h)))
  have hw_12 : Cond.fieldLink RX10 12 (TX10 0).1 (TX10 0).2.1 (TX10 0).2.2.1 ∈ wsX10_count := (List.mem_of_getElem? (i := 3) rfl)
  have hw_102 : Cond.fieldLink RX10 102 (TX6 0).1 (TX6 0).2.1 (TX6 0).2.2.1 ∈ wsX10_count := (List.mem_of_getElem? (i := 4) rfl)
  have hw_106 : Cond.fieldLink RX10 106 (TX9 0).1 (TX9 0).2.1 (TX9 0).2.2.1 ∈ wsX10_count := (List.mem_of_getElem? (i := 5) rfl)
  have hw_114 : Cond.fieldLink RX10 114 (TX9 1).1 (TX9 1).2.1 (TX9 1).2.2.1 ∈ wsX10_count := (List.mem_of_getElem? (i := 6) rfl)
  have hw_117 : Cond.fieldLink RX10 117 (TX6 1).1 (TX6 1).2.1 (TX6 1).2.2.1 ∈ wsX10_count := (List.mem_of_getElem? (i := 7) rfl)
  have hw_121 : Cond.fieldLink RX10 121 (TX7 0).1 (TX7 0).2.1 (TX7 0).2.2.1 ∈ wsX10_count := (List.mem_of_getElem? (i := 8) rfl)
  have hw_134 : Cond.fieldLink RX10 134 (TX6 3).1 (TX6 3).2.1 (TX6 3).2.2.1 ∈ wsX10_count := (List.mem_of_getElem? (i := 9) rfl)
  obtain ⟨Q, hQ⟩ : ∃ Q, Q = gq_Xi below D A args s r_ [(h_t_, .inr (10, [.ref h_show, .ref h_history, .ref h_reader, .ref h_division, .ref h_placement, .ref h_titles, .ref h_page, .int v_stale])), (h_show, .inr (6, [.ref h_show_transcript, .ref h_show_slots, .ref h_show_kept, .ref h_show_settings])), (h_show_transcript, .inr (9, [.int v_show_transcript_segmentCount, .int v_show_transcript_wordCount, .ref h_show_transcript_order, .ref h_show_transcript_durations, .ref h_show_transcript_pauses, .ref h_show_transcript_sizes, .ref h_show_transcript_words, .ref h_show_transcript_names])), (h_show_transcript_order, .inl (cI, 32, .inl v_show_transcript_order)), (h_show_transcript_durations, .inl (cI, 32, .inl v_show_transcript_durations)), (h_show_transcript_pauses, .inl (cI, 32, .inl v_show_transcript_pauses)), (h_show_transcript_sizes, .inl (cI, 32, .inl v_show_transcript_sizes)), (h_show_slots, .inr (7, [.int v_show_slots_slotCount, .ref h_show_slots_wishes, .ref h_show_slots_lengths, .ref h_show_slots_reaches])), (h_show_settings, .inl (cI, 6, .inl v_show_settings))] 1 6 := ⟨_, rfl⟩
  rw [← hQ]
  refine gq_loc [(0, .ref h_t_), (1, .int x1)] rfl ?_
  unfold F_X10_count at hF
  refine gq_aload_n hC 0 dX10_count_0 rfl rfl ?_
  refine gq_get hC (kf := 0) 0 hin_X10 rfl rfl (by decide) hw_12 rfl dX10_count_1 ?_
  refine gq_get hC (kf := 0) 1 hin_X6 rfl rfl (by decide) hw_102 rfl dX10_count_4 ?_
  refine gq_astore_n hC [(2, .ref h_show_transcript), (0, .ref h_t_), (1, .int x1)] dX10_count_7 rfl (by decide) rfl ?_
  refine gq_iload_n hC 2 dX10_count_8 rfl rfl ?_
  by_cases hn_1 : x1 = 0
  · have hF := (if_pos hn_1).symm.trans hF
    refine gq_tblIn hC (off := 39) (v := 0) 48 dX10_count_9 hn_1 (by decide) (by decide) (by decide) (by decide) ?_
    refine gq_aload_n hC 0 dX10_count_48 rfl rfl ?_
    refine gq_get hC (kf := 0) 2 hin_X9 rfl rfl (by decide) hw_106 rfl dX10_count_49 ?_
    cases hF
    rw [hQ]
    exact gq_xiret hC (Nat.le_of_ble_eq_true rfl) (Nat.le_of_ble_eq_true rfl) rfl dX10_count_52
  · have hF := (if_neg hn_1).symm.trans hF
    by_cases hn_2 : x1 = 1
    · have hF := (if_pos hn_2).symm.trans hF
      refine gq_tblIn hC (off := 44) (v := 1) 53 dX10_count_9 hn_2 (by decide) (by decide) (by decide) (by decide) ?_
      refine gq_aload_n hC 0 dX10_count_53 rfl rfl ?_
      refine gq_get hC (kf := 1) 2 hin_X9 rfl rfl (by decide) hw_114 rfl dX10_count_54 ?_
      cases hF
      rw [hQ]
      exact gq_xiret hC (Nat.le_of_ble_eq_true rfl) (Nat.le_of_ble_eq_true rfl) rfl dX10_count_57
    · have hF := (if_neg hn_2).symm.trans hF
      by_cases hn_3 : x1 = 2
      · have hF := (if_pos hn_3).symm.trans hF
        refine gq_tblIn hC (off := 49) (v := 2) 58 dX10_count_9 hn_3 (by decide) (by decide) (by decide) (by decide) ?_
        refine gq_aload_n hC 1 dX10_count_58 rfl rfl ?_
        refine gq_get hC (kf := 0) 0 hin_X10 rfl rfl (by decide) hw_12 rfl dX10_count_59 ?_
        refine gq_get hC (kf := 1) 1 hin_X6 rfl rfl (by decide) hw_117 rfl dX10_count_62 ?_
        refine gq_get hC (kf := 0) 7 hin_X7 rfl rfl (by decide) hw_121 rfl dX10_count_65 ?_
        cases hF
        rw [hQ]
        exact gq_xiret hC (Nat.le_of_ble_eq_true rfl) (Nat.le_of_ble_eq_true rfl) rfl dX10_count_68
      · have hF := (if_neg hn_3).symm.trans hF
        by_cases hn_4 : x1 = 3
        · have hF := (if_pos hn_4).symm.trans hF
          refine gq_tblIn hC (off := 60) (v := 3) 69 dX10_count_9 hn_4 (by decide) (by decide) (by decide) (by decide) ?_
          refine gq_aload_n hC 0 dX10_count_69 rfl rfl ?_
          refine gq_aload_n hC 0 dX10_count_70 rfl rfl ?_
          refine gq_get hC (kf := 0) 2 hin_X9 rfl rfl (by decide) hw_106 rfl dX10_count_71 ?_
          obtain ⟨r_10, hc_, hF⟩ := ob1_e hF
          refine gq_callVi hC [2, 3, 4] [(h_t_, .inr (10, [.ref h_show, .ref h_history, .ref h_reader, .ref h_division, .ref h_placement, .ref h_titles, .ref h_page, .int v_stale])), (h_show, .inr (6, [.ref h_show_transcript, .ref h_show_slots, .ref h_show_kept, .ref h_show_settings])), (h_show_transcript, .inr (9, [.int v_show_transcript_segmentCount, .int v_show_transcript_wordCount, .ref h_show_transcript_order, .ref h_show_transcript_durations, .ref h_show_transcript_pauses, .ref h_show_transcript_sizes, .ref h_show_transcript_words, .ref h_show_transcript_names])), (h_show_transcript_order, .inl (cI, 32, .inl v_show_transcript_order)), (h_show_transcript_durations, .inl (cI, 32, .inl v_show_transcript_durations)), (h_show_transcript_pauses, .inl (cI, 32, .inl v_show_transcript_pauses)), (h_show_transcript_sizes, .inl (cI, 32, .inl v_show_transcript_sizes)), (h_show_slots, .inr (7, [.int v_show_slots_slotCount, .ref h_show_slots_wishes, .ref h_show_slots_lengths, .ref h_show_slots_reaches])), (h_show_settings, .inl (cI, 6, .inl v_show_settings))] [.int v_show_transcript_segmentCount] [] (k_X9_startOf l D cI cJ cZ cO z h_show_transcript h_show_transcript_order h_show_transcript_durations h_show_transcript_pauses h_show_transcript_sizes h_show_transcript_words h_show_transcript_names v_show_transcript_segmentCount v_show_transcript_segmentCount v_show_transcript_wordCount v_show_transcript_order v_show_transcript_durations r_10 hc_) gX10_count_X9_startOf rfl ⟨rfl, rfl⟩ hy_X9_startOf ⟨Nat.le_of_ble_eq_true rfl, Nat.le_of_ble_eq_true rfl⟩ rfl rfl rfl (q0 := 0) rfl rfl rfl (Nat.le_of_ble_eq_true rfl) rfl dX10_count_74 rfl rfl ?_
          cases hF
          rw [hQ]
          exact gq_xiret hC (Nat.le_of_ble_eq_true rfl) (Nat.le_of_ble_eq_true rfl) rfl dX10_count_77
        · have hF := (if_neg hn_4).symm.trans hF
          by_cases hn_5 : x1 = 4
          · have hF := (if_pos hn_5).symm.trans hF
            refine gq_tblIn hC (off := 69) (v := 4) 78 dX10_count_9 hn_5 (by decide) (by decide) (by decide) (by decide) ?_
            refine gq_aload_n hC 0 dX10_count_78 rfl rfl ?_
            obtain ⟨r_9, hc_, hF⟩ := ob1_e hF
            refine gq_callVi hC [2, 3, 6] [(h_t_, .inr (10, [.ref h_show, .ref h_history, .ref h_reader, .ref h_division, .ref h_placement, .ref h_titles, .ref h_page, .int v_stale])), (h_show, .inr (6, [.ref h_show_transcript, .ref h_show_slots, .ref h_show_kept, .ref h_show_settings])), (h_show_transcript, .inr (9, [.int v_show_transcript_segmentCount, .int v_show_transcript_wordCount, .ref h_show_transcript_order, .ref h_show_transcript_durations, .ref h_show_transcript_pauses, .ref h_show_transcript_sizes, .ref h_show_transcript_words, .ref h_show_transcript_names])), (h_show_transcript_order, .inl (cI, 32, .inl v_show_transcript_order)), (h_show_transcript_durations, .inl (cI, 32, .inl v_show_transcript_durations)), (h_show_transcript_pauses, .inl (cI, 32, .inl v_show_transcript_pauses)), (h_show_transcript_sizes, .inl (cI, 32, .inl v_show_transcript_sizes)), (h_show_slots, .inr (7, [.int v_show_slots_slotCount, .ref h_show_slots_wishes, .ref h_show_slots_lengths, .ref h_show_slots_reaches])), (h_show_settings, .inl (cI, 6, .inl v_show_settings))] [] [] (k_X9_allWords l D cI cJ cZ cO z h_show_transcript h_show_transcript_order h_show_transcript_sizes h_show_transcript_durations h_show_transcript_pauses h_show_transcript_words h_show_transcript_names v_show_transcript_segmentCount v_show_transcript_wordCount v_show_transcript_order v_show_transcript_sizes r_9 hc_) gX10_count_X9_allWords rfl ⟨rfl, rfl⟩ hy_X9_allWords ⟨Nat.le_of_ble_eq_true rfl, Nat.le_of_ble_eq_true rfl⟩ rfl rfl rfl (q0 := 0) rfl rfl rfl (Nat.le_of_ble_eq_true rfl) rfl dX10_count_79 rfl rfl ?_
            cases hF
            rw [hQ]
            exact gq_xiret hC (Nat.le_of_ble_eq_true rfl) (Nat.le_of_ble_eq_true rfl) rfl dX10_count_82
          · have hF := (if_neg hn_5).symm.trans hF
            by_cases hn_6 : x1 = 5
            · have hF := (if_pos hn_6).symm.trans hF
              refine gq_tblIn hC (off := 74) (v := 5) 83 dX10_count_9 hn_6 (by decide) (by decide) (by decide) (by decide) ?_
              refine gq_aload_n hC 0 dX10_count_83 rfl rfl ?_
              refine gq_aload_n hC 1 dX10_count_84 rfl rfl ?_
              refine gq_get hC (kf := 0) 0 hin_X10 rfl rfl (by decide) hw_12 rfl dX10_count_85 ?_
              refine gq_get hC (kf := 3) 1 hin_X6 rfl rfl (by decide) hw_134 rfl dX10_count_88 ?_
              refine gq_iconst hC (4 : Int32) dX10_count_91 (by decide) ?_
              obtain ⟨hi_7, hF⟩ := gi_e hF
              refine gq_iald hC 8 0 rfl rfl hi_7 dX10_count_92 ?_
              obtain ⟨r_8, hc_, hF⟩ := ob1_e hF
              refine gq_callVi hC [2, 3, 5] [(h_t_, .inr (10, [.ref h_show, .ref h_history, .ref h_reader, .ref h_division, .ref h_placement, .ref h_titles, .ref h_page, .int v_stale])), (h_show, .inr (6, [.ref h_show_transcript, .ref h_show_slots, .ref h_show_kept, .ref h_show_settings])), (h_show_transcript, .inr (9, [.int v_show_transcript_segmentCount, .int v_show_transcript_wordCount, .ref h_show_transcript_order, .ref h_show_transcript_durations, .ref h_show_transcript_pauses, .ref h_show_transcript_sizes, .ref h_show_transcript_words, .ref h_show_transcript_names])), (h_show_transcript_order, .inl (cI, 32, .inl v_show_transcript_order)), (h_show_transcript_durations, .inl (cI, 32, .inl v_show_transcript_durations)), (h_show_transcript_pauses, .inl (cI, 32, .inl v_show_transcript_pauses)), (h_show_transcript_sizes, .inl (cI, 32, .inl v_show_transcript_sizes)), (h_show_slots, .inr (7, [.int v_show_slots_slotCount, .ref h_show_slots_wishes, .ref h_show_slots_lengths, .ref h_show_slots_reaches])), (h_show_settings, .inl (cI, 6, .inl v_show_settings))] [.int (v_show_settings (4 : Int32).toNatClampNeg)] [] (k_X9_longPauses l D cI cJ cZ cO z h_show_transcript h_show_transcript_order h_show_transcript_pauses h_show_transcript_durations h_show_transcript_sizes h_show_transcript_words h_show_transcript_names (v_show_settings (4 : Int32).toNatClampNeg) v_show_transcript_segmentCount v_show_transcript_wordCount v_show_transcript_order v_show_transcript_pauses r_8 hc_) gX10_count_X9_longPauses rfl ⟨rfl, rfl⟩ hy_X9_longPauses ⟨Nat.le_of_ble_eq_true rfl, Nat.le_of_ble_eq_true rfl⟩ rfl rfl rfl (q0 := 0) rfl rfl rfl (Nat.le_of_ble_eq_true rfl) rfl dX10_count_93 rfl rfl ?_
              cases hF
              rw [hQ]
              exact gq_xiret hC (Nat.le_of_ble_eq_true rfl) (Nat.le_of_ble_eq_true rfl) rfl dX10_count_96
            · have hF := (if_neg hn_6).symm.trans hF
              refine gq_tblOut hC 97 dX10_count_9 (by have h9 : ∀ z : Int32, z.toInt = z.toInt := fun _ => rfl; have := lv_neT hn_1 (show (0 : Int32).toInt = 0 from by decide); have := lv_neT hn_2 (show (1 : Int32).toInt = 1 from by decide); have := lv_neT hn_3 (show (2 : Int32).toInt = 2 from by decide); have := lv_neT hn_4 (show (3 : Int32).toInt = 3 from by decide); have := lv_neT hn_5 (show (4 : Int32).toInt = 4 from by decide); have := lv_neT hn_6 (show (5 : Int32).toInt = 5 from by decide); omega) (by decide) ?_
              cases hF
              rw [hQ]
              exact gq_throwS (code := 2) (text := "there is no such number of the show") hC hex hl (by decide +kernel) ⟨(List.mem_of_getElem? (i := 1) rfl), (List.mem_of_getElem? (i := 2) rfl)⟩ ⟨by decide +kernel, by decide +kernel⟩ (by decide +kernel) hat_2 dX10_count_97 dX10_count_100 dX10_count_101 dX10_count_103 dX10_count_106 ⟨Nat.le_of_ble_eq_true rfl, Nat.le_of_ble_eq_true rfl, Nat.le_of_ble_eq_true rfl, Nat.le_of_ble_eq_true rfl⟩ rfl (Nat.le_of_ble_eq_true rfl) (Nat.le_of_ble_eq_true rfl)
theorem hy_X10_requireSetting : yX10_requireSetting.cls = RX10 ∧ yX10_requireSetting.cls ≠ "java/lang/invoke/MethodHandle" ∧ yX10_requireSetting.cls ≠ "java/lang/invoke/VarHandle" ∧ (parseMethodDescriptor yX10_requireSetting.desc).map (fun d => d.parameters.length) = some 1 := by decide +kernel
set_option maxRecDepth 20000 in
set_option maxHeartbeats 4000000 in
theorem k_X10_requireSetting (l : Launch) (hl : l.stackTraces = false) (D : va_G) (cI cJ cZ cO : ClassId) (z : Nat → Nat)  (h_t_ : Nat) (h_show : Nat) (h_history : Nat) (h_reader : Nat) (h_division : Nat) (h_placement : Nat) (h_titles : Nat) (h_page : Nat) (x1 : Int32) (v_stale : Int32) (r_ : (Nat ⊕ Unit)) (hF : F_X10_requireSetting x1 = some r_) : Xv l yX10_requireSetting wsX10_requireSetting (rmX 6 1) D (gq_ty cI cJ cZ cO) z [.ref h_t_, .int x1] [(h_t_, .inr (10, [.ref h_show, .ref h_history, .ref h_reader, .ref h_division, .ref h_placement, .ref h_titles, .ref h_page, .int v_stale]))] r_ [(h_t_, .inr (10, [.ref h_show, .ref h_history, .ref h_reader, .ref h_division, .ref h_placement, .ref h_titles, .ref h_page, .int v_stale]))] 1 6 := by
  refine Xv.of (cc := cX10_requireSetting) (maxL := 2) (by decide) rfl (Nat.le_of_ble_eq_true rfl) ?_
  intro p e s m args below meth c A hC hex
  obtain ⟨Q, hQ⟩ : ∃ Q, Q = gq_Xv below D A args s r_ [(h_t_, .inr (10, [.ref h_show, .ref h_history, .ref h_reader, .ref h_division, .ref h_placement, .ref h_titles, .ref h_page, .int v_stale]))] 1 6 := ⟨_, rfl⟩
  rw [← hQ]
  refine gq_loc [(0, .ref h_t_), (1, .int x1)] rfl ?_
  have jb10 : F_X10_requireSetting_b10  = some r_ → Gx p l e (rmX 6 1) s m args below meth c D A 2 Q 0 0 10 [] [] [(h_t_, .inr (10, [.ref h_show, .ref h_history, .ref h_reader, .ref h_division, .ref h_placement, .ref h_titles, .ref h_page, .int v_stale]))] := by
    intro  hF
    unfold F_X10_requireSetting_b10 at hF
    cases hF
    rw [hQ]
    exact gq_throwSW (code := 3) (text := "there is no such setting") hC hex hl (by decide +kernel) ⟨(List.mem_of_getElem? (i := 1) rfl), (List.mem_of_getElem? (i := 2) rfl)⟩ ⟨by decide +kernel, by decide +kernel⟩ (by decide +kernel) hat_3 dX10_requireSetting_10 dX10_requireSetting_13 dX10_requireSetting_14 dX10_requireSetting_17 dX10_requireSetting_20 ⟨Nat.le_of_ble_eq_true rfl, Nat.le_of_ble_eq_true rfl, Nat.le_of_ble_eq_true rfl, Nat.le_of_ble_eq_true rfl⟩ rfl (Nat.le_of_ble_eq_true rfl) (Nat.le_of_ble_eq_true rfl)
  unfold F_X10_requireSetting at hF
  refine gq_iload_n hC 1 dX10_requireSetting_0 rfl rfl ?_
  refine gq_if_lt hC 10 dX10_requireSetting_1 (by decide) (fun hc_2 => ?_) (fun hc_2 => ?_)
  · have hF := (if_pos hc_2).symm.trans hF
    refine gq_sub [] [] rfl ?_
    exact jb10  hF
  · have hF := (if_neg hc_2).symm.trans hF
    refine gq_iload_n hC 1 dX10_requireSetting_4 rfl rfl ?_
    refine gq_bipush hC (6 : Int32) dX10_requireSetting_5 (by decide) ?_
    refine gq_icmp_lt hC 21 dX10_requireSetting_7 (by decide) (fun hc_1 => ?_) (fun hc_1 => ?_)
    · have hF := (if_pos hc_1).symm.trans hF
      cases hF
      rw [hQ]
      exact gq_xvret hC (Nat.le_of_ble_eq_true rfl) (Nat.le_of_ble_eq_true rfl) dX10_requireSetting_21
    · have hF := (if_neg hc_1).symm.trans hF
      refine gq_sub [] [] rfl ?_
      exact jb10  hF
theorem hy_X10_setting : yX10_setting.cls = RX10 ∧ yX10_setting.cls ≠ "java/lang/invoke/MethodHandle" ∧ yX10_setting.cls ≠ "java/lang/invoke/VarHandle" ∧ (parseMethodDescriptor yX10_setting.desc).map (fun d => d.parameters.length) = some 1 := by decide +kernel
set_option maxRecDepth 20000 in
set_option maxHeartbeats 4000000 in
theorem k_X10_setting (l : Launch) (hl : l.stackTraces = false) (D : va_G) (cI cJ cZ cO : ClassId) (z : Nat → Nat)  (h_t_ : Nat) (h_show : Nat) (h_show_settings : Nat) (h_history : Nat) (h_reader : Nat) (h_division : Nat) (h_placement : Nat) (h_titles : Nat) (h_page : Nat) (h_show_transcript : Nat) (h_show_slots : Nat) (h_show_kept : Nat) (x1 : Int32) (v_stale : Int32) (v_show_settings : Nat → Int32) (r_ : (Nat ⊕ Int32)) (hF : F_X10_setting x1 v_show_settings = some r_) : Xi l yX10_setting wsX10_setting (rmX 7 1) D (gq_ty cI cJ cZ cO) z [.ref h_t_, .int x1] [(h_t_, .inr (10, [.ref h_show, .ref h_history, .ref h_reader, .ref h_division, .ref h_placement, .ref h_titles, .ref h_page, .int v_stale])), (h_show, .inr (6, [.ref h_show_transcript, .ref h_show_slots, .ref h_show_kept, .ref h_show_settings])), (h_show_settings, .inl (cI, 6, .inl v_show_settings))] r_ [(h_t_, .inr (10, [.ref h_show, .ref h_history, .ref h_reader, .ref h_division, .ref h_placement, .ref h_titles, .ref h_page, .int v_stale])), (h_show, .inr (6, [.ref h_show_transcript, .ref h_show_slots, .ref h_show_kept, .ref h_show_settings])), (h_show_settings, .inl (cI, 6, .inl v_show_settings))] 1 6 := by
  refine Xi.of (cc := cX10_setting) (maxL := 2) (by decide) rfl (Nat.le_of_ble_eq_true rfl) ?_
  intro p e s m args below meth c A hC hex
  have hin_X10 : ∀ w ∈ wsX100, w ∈ wsX10_setting := fun w h => List.mem_cons_of_mem _ (List.mem_append_left _ (List.mem_append_left _ (List.mem_append_right _ h)))
  have hin_X6 : ∀ w ∈ wsX60, w ∈ wsX10_setting := fun w h => List.mem_cons_of_mem _ (List.mem_append_left _ (List.mem_append_right _ h))
  have hw_12 : Cond.fieldLink RX10 12 (TX10 0).1 (TX10 0).2.1 (TX10 0).2.2.1 ∈ wsX10_setting := (List.mem_of_getElem? (i := 1) rfl)
  have hw_134 : Cond.fieldLink RX10 134 (TX6 3).1 (TX6 3).2.1 (TX6 3).2.2.1 ∈ wsX10_setting := (List.mem_of_getElem? (i := 2) rfl)
  obtain ⟨Q, hQ⟩ : ∃ Q, Q = gq_Xi below D A args s r_ [(h_t_, .inr (10, [.ref h_show, .ref h_history, .ref h_reader, .ref h_division, .ref h_placement, .ref h_titles, .ref h_page, .int v_stale])), (h_show, .inr (6, [.ref h_show_transcript, .ref h_show_slots, .ref h_show_kept, .ref h_show_settings])), (h_show_settings, .inl (cI, 6, .inl v_show_settings))] 1 6 := ⟨_, rfl⟩
  rw [← hQ]
  refine gq_loc [(0, .ref h_t_), (1, .int x1)] rfl ?_
  unfold F_X10_setting at hF
  refine gq_aload_n hC 0 dX10_setting_0 rfl rfl ?_
  refine gq_iload_n hC 1 dX10_setting_1 rfl rfl ?_
  obtain ⟨x_1, hc_, hF⟩ := ob1_e hF
  rcases x_1 with c_2 | r_3
  · have hF := xo_l hF
    have hF := Option.some.inj hF
    subst hF
    rw [hQ]
    exact gq_xxVv (mc := 1) (ms := 6) hC [0] [(h_t_, .inr (10, [.ref h_show, .ref h_history, .ref h_reader, .ref h_division, .ref h_placement, .ref h_titles, .ref h_page, .int v_stale])), (h_show, .inr (6, [.ref h_show_transcript, .ref h_show_slots, .ref h_show_kept, .ref h_show_settings])), (h_show_settings, .inl (cI, 6, .inl v_show_settings))] [.int x1] [] (k_X10_requireSetting l hl D cI cJ cZ cO z h_t_ h_show h_history h_reader h_division h_placement h_titles h_page x1 v_stale (.inl c_2) hc_) gX10_setting_X10_requireSetting rfl ⟨rfl, rfl⟩ hy_X10_requireSetting ⟨Nat.le_of_ble_eq_true rfl, Nat.le_of_ble_eq_true rfl⟩ ⟨Nat.le_of_ble_eq_true rfl, Nat.le_of_ble_eq_true rfl⟩ rfl rfl rfl (q0 := 0) rfl rfl rfl (Nat.le_of_ble_eq_true rfl) rfl dX10_setting_2 rfl rfl hex rfl ⟨Nat.le_of_ble_eq_true rfl, Nat.le_of_ble_eq_true rfl⟩
  · have hF := xo_r hF
    refine gq_xrVv hC [0] [(h_t_, .inr (10, [.ref h_show, .ref h_history, .ref h_reader, .ref h_division, .ref h_placement, .ref h_titles, .ref h_page, .int v_stale])), (h_show, .inr (6, [.ref h_show_transcript, .ref h_show_slots, .ref h_show_kept, .ref h_show_settings])), (h_show_settings, .inl (cI, 6, .inl v_show_settings))] [.int x1] [] (k_X10_requireSetting l hl D cI cJ cZ cO z h_t_ h_show h_history h_reader h_division h_placement h_titles h_page x1 v_stale (.inr r_3) hc_) gX10_setting_X10_requireSetting rfl ⟨rfl, rfl⟩ hy_X10_requireSetting ⟨Nat.le_of_ble_eq_true rfl, Nat.le_of_ble_eq_true rfl⟩ ⟨Nat.le_of_ble_eq_true rfl, Nat.le_of_ble_eq_true rfl⟩ rfl rfl rfl (q0 := 0) rfl rfl rfl (Nat.le_of_ble_eq_true rfl) rfl dX10_setting_2 rfl rfl ?_
    have hC := gq_at hC (k' := 1) (n' := 6) ⟨Nat.le_of_ble_eq_true rfl, Nat.le_of_ble_eq_true rfl⟩
    refine gq_aload_n hC 0 dX10_setting_5 rfl rfl ?_
    refine gq_get hC (kf := 0) 0 hin_X10 rfl rfl (by decide) hw_12 rfl dX10_setting_6 ?_
    refine gq_get hC (kf := 3) 1 hin_X6 rfl rfl (by decide) hw_134 rfl dX10_setting_9 ?_
    refine gq_iload_n hC 1 dX10_setting_12 rfl rfl ?_
    obtain ⟨hi_4, hF⟩ := gi_e hF
    refine gq_iald hC 2 0 rfl rfl hi_4 dX10_setting_13 ?_
    cases hF
    rw [hQ]
    exact gq_xiret hC (Nat.le_of_ble_eq_true rfl) (Nat.le_of_ble_eq_true rfl) rfl dX10_setting_14
theorem hy_X10_find : yX10_find.cls = RX10 ∧ yX10_find.cls ≠ "java/lang/invoke/MethodHandle" ∧ yX10_find.cls ≠ "java/lang/invoke/VarHandle" ∧ (parseMethodDescriptor yX10_find.desc).map (fun d => d.parameters.length) = some 1 := by decide +kernel
set_option maxRecDepth 20000 in
set_option maxHeartbeats 4000000 in
theorem k_X10_find (l : Launch) (D : va_G) (cI cJ cZ cO : ClassId) (z : Nat → Nat)   (h_t_ : Nat) (h_show : Nat) (h_show_transcript : Nat) (h_show_transcript_names : Nat) (h_history : Nat) (h_reader : Nat) (h_division : Nat) (h_placement : Nat) (h_titles : Nat) (h_page : Nat) (h_show_slots : Nat) (h_show_kept : Nat) (h_show_settings : Nat) (h_show_transcript_order : Nat) (h_show_transcript_durations : Nat) (h_show_transcript_pauses : Nat) (h_show_transcript_sizes : Nat) (h_show_transcript_words : Nat) (x1 : Int64) (v_stale : Int32) (v_show_transcript_segmentCount : Int32) (v_show_transcript_wordCount : Int32) (v_show_transcript_names : Nat → Int64) (r_ : Int32) (hF : F_X10_find x1 v_show_transcript_wordCount v_show_transcript_names = some r_) : Mi l yX10_find wsX10_find (rmD 1) D (gq_ty cI cJ cZ cO) z [.ref h_t_, .long x1] [(h_t_, .inr (10, [.ref h_show, .ref h_history, .ref h_reader, .ref h_division, .ref h_placement, .ref h_titles, .ref h_page, .int v_stale])), (h_show, .inr (6, [.ref h_show_transcript, .ref h_show_slots, .ref h_show_kept, .ref h_show_settings])), (h_show_transcript, .inr (9, [.int v_show_transcript_segmentCount, .int v_show_transcript_wordCount, .ref h_show_transcript_order, .ref h_show_transcript_durations, .ref h_show_transcript_pauses, .ref h_show_transcript_sizes, .ref h_show_transcript_words, .ref h_show_transcript_names])), (h_show_transcript_names, .inl (cJ, 24, .inr (.inl v_show_transcript_names)))] r_ [(h_t_, .inr (10, [.ref h_show, .ref h_history, .ref h_reader, .ref h_division, .ref h_placement, .ref h_titles, .ref h_page, .int v_stale])), (h_show, .inr (6, [.ref h_show_transcript, .ref h_show_slots, .ref h_show_kept, .ref h_show_settings])), (h_show_transcript, .inr (9, [.int v_show_transcript_segmentCount, .int v_show_transcript_wordCount, .ref h_show_transcript_order, .ref h_show_transcript_durations, .ref h_show_transcript_pauses, .ref h_show_transcript_sizes, .ref h_show_transcript_words, .ref h_show_transcript_names])), (h_show_transcript_names, .inl (cJ, 24, .inr (.inl v_show_transcript_names)))] 0 0 := by
  refine Mi.of (cc := cX10_find) (maxL := 3) (by decide) rfl (Nat.le_of_ble_eq_true rfl) ⟨Nat.le_refl 0, Nat.le_refl 0⟩ ?_
  intro p e s m args below meth c A hC ha
  have hin_X10 : ∀ w ∈ wsX100, w ∈ wsX10_find := fun w h => List.mem_cons_of_mem _ (List.mem_append_left _ (List.mem_append_left _ (List.mem_append_right _ h)))
  have hin_X6 : ∀ w ∈ wsX60, w ∈ wsX10_find := fun w h => List.mem_cons_of_mem _ (List.mem_append_left _ (List.mem_append_right _ h))
  have hw_12 : Cond.fieldLink RX10 12 (TX10 0).1 (TX10 0).2.1 (TX10 0).2.2.1 ∈ wsX10_find := (List.mem_of_getElem? (i := 1) rfl)
  have hw_102 : Cond.fieldLink RX10 102 (TX6 0).1 (TX6 0).2.1 (TX6 0).2.2.1 ∈ wsX10_find := (List.mem_of_getElem? (i := 2) rfl)
  obtain ⟨Q, hQ⟩ : ∃ Q, Q = gq_Qi below D A args s r_ [(h_t_, .inr (10, [.ref h_show, .ref h_history, .ref h_reader, .ref h_division, .ref h_placement, .ref h_titles, .ref h_page, .int v_stale])), (h_show, .inr (6, [.ref h_show_transcript, .ref h_show_slots, .ref h_show_kept, .ref h_show_settings])), (h_show_transcript, .inr (9, [.int v_show_transcript_segmentCount, .int v_show_transcript_wordCount, .ref h_show_transcript_order, .ref h_show_transcript_durations, .ref h_show_transcript_pauses, .ref h_show_transcript_sizes, .ref h_show_transcript_words, .ref h_show_transcript_names])), (h_show_transcript_names, .inl (cJ, 24, .inr (.inl v_show_transcript_names)))] 0 0 := ⟨_, rfl⟩
  rw [← hQ]
  refine gq_loc [(0, .ref h_t_), (1, .long x1)] rfl ?_
  unfold F_X10_find at hF
  refine gq_aload_n hC 0 dX10_find_0 rfl rfl ?_
  refine gq_get hC (kf := 0) 0 hin_X10 rfl rfl (by decide) hw_12 rfl dX10_find_1 ?_
  refine gq_get hC (kf := 0) 1 hin_X6 rfl rfl (by decide) hw_102 rfl dX10_find_4 ?_
  refine gq_lload_n hC 1 dX10_find_7 rfl rfl ?_
  obtain ⟨r_1, hc_, hF⟩ := ob1_e hF
  refine gq_callVi hC [2, 3] [(h_t_, .inr (10, [.ref h_show, .ref h_history, .ref h_reader, .ref h_division, .ref h_placement, .ref h_titles, .ref h_page, .int v_stale])), (h_show, .inr (6, [.ref h_show_transcript, .ref h_show_slots, .ref h_show_kept, .ref h_show_settings])), (h_show_transcript, .inr (9, [.int v_show_transcript_segmentCount, .int v_show_transcript_wordCount, .ref h_show_transcript_order, .ref h_show_transcript_durations, .ref h_show_transcript_pauses, .ref h_show_transcript_sizes, .ref h_show_transcript_words, .ref h_show_transcript_names])), (h_show_transcript_names, .inl (cJ, 24, .inr (.inl v_show_transcript_names)))] [.long x1] [] (k_X9_numberOf l D cI cJ cZ cO z h_show_transcript h_show_transcript_names h_show_transcript_order h_show_transcript_durations h_show_transcript_pauses h_show_transcript_sizes h_show_transcript_words x1 v_show_transcript_segmentCount v_show_transcript_wordCount v_show_transcript_names r_1 hc_) gX10_find_X9_numberOf rfl ⟨rfl, rfl⟩ hy_X9_numberOf ⟨Nat.le_of_ble_eq_true rfl, Nat.le_of_ble_eq_true rfl⟩ rfl rfl rfl (q0 := 0) rfl rfl rfl (Nat.le_of_ble_eq_true rfl) rfl dX10_find_8 rfl rfl ?_
  cases hF
  rw [hQ]
  exact gq_iret hC rfl dX10_find_11
theorem hy_X10_requireSegment : yX10_requireSegment.cls = RX10 ∧ yX10_requireSegment.cls ≠ "java/lang/invoke/MethodHandle" ∧ yX10_requireSegment.cls ≠ "java/lang/invoke/VarHandle" ∧ (parseMethodDescriptor yX10_requireSegment.desc).map (fun d => d.parameters.length) = some 1 := by decide +kernel
set_option maxRecDepth 20000 in
set_option maxHeartbeats 4000000 in
theorem k_X10_requireSegment (l : Launch) (hl : l.stackTraces = false) (D : va_G) (cI cJ cZ cO : ClassId) (z : Nat → Nat)  (h_t_ : Nat) (h_show : Nat) (h_show_transcript : Nat) (h_history : Nat) (h_reader : Nat) (h_division : Nat) (h_placement : Nat) (h_titles : Nat) (h_page : Nat) (h_show_slots : Nat) (h_show_kept : Nat) (h_show_settings : Nat) (h_show_transcript_order : Nat) (h_show_transcript_durations : Nat) (h_show_transcript_pauses : Nat) (h_show_transcript_sizes : Nat) (h_show_transcript_words : Nat) (h_show_transcript_names : Nat) (x1 : Int32) (v_stale : Int32) (v_show_transcript_segmentCount : Int32) (v_show_transcript_wordCount : Int32) (r_ : (Nat ⊕ Unit)) (hF : F_X10_requireSegment x1 v_show_transcript_segmentCount = some r_) : Xv l yX10_requireSegment wsX10_requireSegment (rmX 6 1) D (gq_ty cI cJ cZ cO) z [.ref h_t_, .int x1] [(h_t_, .inr (10, [.ref h_show, .ref h_history, .ref h_reader, .ref h_division, .ref h_placement, .ref h_titles, .ref h_page, .int v_stale])), (h_show, .inr (6, [.ref h_show_transcript, .ref h_show_slots, .ref h_show_kept, .ref h_show_settings])), (h_show_transcript, .inr (9, [.int v_show_transcript_segmentCount, .int v_show_transcript_wordCount, .ref h_show_transcript_order, .ref h_show_transcript_durations, .ref h_show_transcript_pauses, .ref h_show_transcript_sizes, .ref h_show_transcript_words, .ref h_show_transcript_names]))] r_ [(h_t_, .inr (10, [.ref h_show, .ref h_history, .ref h_reader, .ref h_division, .ref h_placement, .ref h_titles, .ref h_page, .int v_stale])), (h_show, .inr (6, [.ref h_show_transcript, .ref h_show_slots, .ref h_show_kept, .ref h_show_settings])), (h_show_transcript, .inr (9, [.int v_show_transcript_segmentCount, .int v_show_transcript_wordCount, .ref h_show_transcript_order, .ref h_show_transcript_durations, .ref h_show_transcript_pauses, .ref h_show_transcript_sizes, .ref h_show_transcript_words, .ref h_show_transcript_names]))] 1 6 := by
  refine Xv.of (cc := cX10_requireSegment) (maxL := 2) (by decide) rfl (Nat.le_of_ble_eq_true rfl) ?_
  intro p e s m args below meth c A hC hex
  have hin_X10 : ∀ w ∈ wsX100, w ∈ wsX10_requireSegment := fun w h => List.mem_cons_of_mem _ (List.mem_append_left _ (List.mem_append_left _ (List.mem_append_left _ (List.mem_append_right _ h))))
  have hin_X6 : ∀ w ∈ wsX60, w ∈ wsX10_requireSegment := fun w h => List.mem_cons_of_mem _ (List.mem_append_left _ (List.mem_append_left _ (List.mem_append_right _ h)))
  have hin_X9 : ∀ w ∈ wsX90, w ∈ wsX10_requireSegment := fun w h => List.mem_cons_of_mem _ (List.mem_append_left _ (List.mem_append_right _ h))
  have hw_12 : Cond.fieldLink RX10 12 (TX10 0).1 (TX10 0).2.1 (TX10 0).2.2.1 ∈ wsX10_requireSegment := (List.mem_of_getElem? (i := 3) rfl)
  have hw_102 : Cond.fieldLink RX10 102 (TX6 0).1 (TX6 0).2.1 (TX6 0).2.2.1 ∈ wsX10_requireSegment := (List.mem_of_getElem? (i := 4) rfl)
  have hw_106 : Cond.fieldLink RX10 106 (TX9 0).1 (TX9 0).2.1 (TX9 0).2.2.1 ∈ wsX10_requireSegment := (List.mem_of_getElem? (i := 5) rfl)
  obtain ⟨Q, hQ⟩ : ∃ Q, Q = gq_Xv below D A args s r_ [(h_t_, .inr (10, [.ref h_show, .ref h_history, .ref h_reader, .ref h_division, .ref h_placement, .ref h_titles, .ref h_page, .int v_stale])), (h_show, .inr (6, [.ref h_show_transcript, .ref h_show_slots, .ref h_show_kept, .ref h_show_settings])), (h_show_transcript, .inr (9, [.int v_show_transcript_segmentCount, .int v_show_transcript_wordCount, .ref h_show_transcript_order, .ref h_show_transcript_durations, .ref h_show_transcript_pauses, .ref h_show_transcript_sizes, .ref h_show_transcript_words, .ref h_show_transcript_names]))] 1 6 := ⟨_, rfl⟩
  rw [← hQ]
  refine gq_loc [(0, .ref h_t_), (1, .int x1)] rfl ?_
  have jb18 : F_X10_requireSegment_b18  = some r_ → Gx p l e (rmX 6 1) s m args below meth c D A 2 Q 0 0 18 [] [] [(h_t_, .inr (10, [.ref h_show, .ref h_history, .ref h_reader, .ref h_division, .ref h_placement, .ref h_titles, .ref h_page, .int v_stale])), (h_show, .inr (6, [.ref h_show_transcript, .ref h_show_slots, .ref h_show_kept, .ref h_show_settings])), (h_show_transcript, .inr (9, [.int v_show_transcript_segmentCount, .int v_show_transcript_wordCount, .ref h_show_transcript_order, .ref h_show_transcript_durations, .ref h_show_transcript_pauses, .ref h_show_transcript_sizes, .ref h_show_transcript_words, .ref h_show_transcript_names]))] := by
    intro  hF
    unfold F_X10_requireSegment_b18 at hF
    cases hF
    rw [hQ]
    exact gq_throwSW (code := 3) (text := "there is no such segment") hC hex hl (by decide +kernel) ⟨(List.mem_of_getElem? (i := 1) rfl), (List.mem_of_getElem? (i := 2) rfl)⟩ ⟨by decide +kernel, by decide +kernel⟩ (by decide +kernel) hat_3 dX10_requireSegment_18 dX10_requireSegment_21 dX10_requireSegment_22 dX10_requireSegment_25 dX10_requireSegment_28 ⟨Nat.le_of_ble_eq_true rfl, Nat.le_of_ble_eq_true rfl, Nat.le_of_ble_eq_true rfl, Nat.le_of_ble_eq_true rfl⟩ rfl (Nat.le_of_ble_eq_true rfl) (Nat.le_of_ble_eq_true rfl)
  unfold F_X10_requireSegment at hF
  refine gq_iload_n hC 1 dX10_requireSegment_0 rfl rfl ?_
  refine gq_if_lt hC 18 dX10_requireSegment_1 (by decide) (fun hc_2 => ?_) (fun hc_2 => ?_)
  · have hF := (if_pos hc_2).symm.trans hF
    refine gq_sub [] [] rfl ?_
    exact jb18  hF
  · have hF := (if_neg hc_2).symm.trans hF
    refine gq_iload_n hC 1 dX10_requireSegment_4 rfl rfl ?_
    refine gq_aload_n hC 0 dX10_requireSegment_5 rfl rfl ?_
    refine gq_get hC (kf := 0) 0 hin_X10 rfl rfl (by decide) hw_12 rfl dX10_requireSegment_6 ?_
    refine gq_get hC (kf := 0) 1 hin_X6 rfl rfl (by decide) hw_102 rfl dX10_requireSegment_9 ?_
    refine gq_get hC (kf := 0) 2 hin_X9 rfl rfl (by decide) hw_106 rfl dX10_requireSegment_12 ?_
    refine gq_icmp_lt hC 29 dX10_requireSegment_15 (by decide) (fun hc_1 => ?_) (fun hc_1 => ?_)
    · have hF := (if_pos hc_1).symm.trans hF
      cases hF
      rw [hQ]
      exact gq_xvret hC (Nat.le_of_ble_eq_true rfl) (Nat.le_of_ble_eq_true rfl) dX10_requireSegment_29
    · have hF := (if_neg hc_1).symm.trans hF
      refine gq_sub [] [] rfl ?_
      exact jb18  hF
theorem hy_X10_wordOf : yX10_wordOf.cls = RX10 ∧ yX10_wordOf.cls ≠ "java/lang/invoke/MethodHandle" ∧ yX10_wordOf.cls ≠ "java/lang/invoke/VarHandle" ∧ (parseMethodDescriptor yX10_wordOf.desc).map (fun d => d.parameters.length) = some 2 := by decide +kernel
set_option maxRecDepth 20000 in
set_option maxHeartbeats 4000000 in
theorem k_X10_wordOf (l : Launch) (hl : l.stackTraces = false) (D : va_G) (cI cJ cZ cO : ClassId) (z : Nat → Nat)  (h_t_ : Nat) (h_show : Nat) (h_show_transcript : Nat) (h_show_transcript_order : Nat) (h_show_transcript_sizes : Nat) (h_show_transcript_words : Nat) (h_history : Nat) (h_reader : Nat) (h_division : Nat) (h_placement : Nat) (h_titles : Nat) (h_page : Nat) (h_show_slots : Nat) (h_show_kept : Nat) (h_show_settings : Nat) (h_show_transcript_durations : Nat) (h_show_transcript_pauses : Nat) (h_show_transcript_names : Nat) (x1 : Int32) (x2 : Int32) (v_stale : Int32) (v_show_transcript_segmentCount : Int32) (v_show_transcript_wordCount : Int32) (v_show_transcript_order : Nat → Int32) (v_show_transcript_sizes : Nat → Int32) (v_show_transcript_words : Nat → Int32) (r_ : (Nat ⊕ Int32)) (hF : F_X10_wordOf x1 x2 v_show_transcript_segmentCount v_show_transcript_order v_show_transcript_sizes v_show_transcript_words = some r_) : Xi l yX10_wordOf wsX10_wordOf (rmX 7 2) D (gq_ty cI cJ cZ cO) z [.ref h_t_, .int x1, .int x2] [(h_t_, .inr (10, [.ref h_show, .ref h_history, .ref h_reader, .ref h_division, .ref h_placement, .ref h_titles, .ref h_page, .int v_stale])), (h_show, .inr (6, [.ref h_show_transcript, .ref h_show_slots, .ref h_show_kept, .ref h_show_settings])), (h_show_transcript, .inr (9, [.int v_show_transcript_segmentCount, .int v_show_transcript_wordCount, .ref h_show_transcript_order, .ref h_show_transcript_durations, .ref h_show_transcript_pauses, .ref h_show_transcript_sizes, .ref h_show_transcript_words, .ref h_show_transcript_names])), (h_show_transcript_order, .inl (cI, 32, .inl v_show_transcript_order)), (h_show_transcript_sizes, .inl (cI, 32, .inl v_show_transcript_sizes)), (h_show_transcript_words, .inl (cI, 256, .inl v_show_transcript_words))] r_ [(h_t_, .inr (10, [.ref h_show, .ref h_history, .ref h_reader, .ref h_division, .ref h_placement, .ref h_titles, .ref h_page, .int v_stale])), (h_show, .inr (6, [.ref h_show_transcript, .ref h_show_slots, .ref h_show_kept, .ref h_show_settings])), (h_show_transcript, .inr (9, [.int v_show_transcript_segmentCount, .int v_show_transcript_wordCount, .ref h_show_transcript_order, .ref h_show_transcript_durations, .ref h_show_transcript_pauses, .ref h_show_transcript_sizes, .ref h_show_transcript_words, .ref h_show_transcript_names])), (h_show_transcript_order, .inl (cI, 32, .inl v_show_transcript_order)), (h_show_transcript_sizes, .inl (cI, 32, .inl v_show_transcript_sizes)), (h_show_transcript_words, .inl (cI, 256, .inl v_show_transcript_words))] 2 12 := by
  refine Xi.of (cc := cX10_wordOf) (maxL := 3) (by decide) rfl (Nat.le_of_ble_eq_true rfl) ?_
  intro p e s m args below meth c A hC hex
  have hin_X10 : ∀ w ∈ wsX100, w ∈ wsX10_wordOf := fun w h => List.mem_cons_of_mem _ (List.mem_append_left _ (List.mem_append_left _ (List.mem_append_left _ (List.mem_append_right _ h))))
  have hin_X6 : ∀ w ∈ wsX60, w ∈ wsX10_wordOf := fun w h => List.mem_cons_of_mem _ (List.mem_append_left _ (List.mem_append_left _ (List.mem_append_right _ h)))
  have hw_12 : Cond.fieldLink RX10 12 (TX10 0).1 (TX10 0).2.1 (TX10 0).2.2.1 ∈ wsX10_wordOf := (List.mem_of_getElem? (i := 3) rfl)
  have hw_102 : Cond.fieldLink RX10 102 (TX6 0).1 (TX6 0).2.1 (TX6 0).2.2.1 ∈ wsX10_wordOf := (List.mem_of_getElem? (i := 4) rfl)
  obtain ⟨Q, hQ⟩ : ∃ Q, Q = gq_Xi below D A args s r_ [(h_t_, .inr (10, [.ref h_show, .ref h_history, .ref h_reader, .ref h_division, .ref h_placement, .ref h_titles, .ref h_page, .int v_stale])), (h_show, .inr (6, [.ref h_show_transcript, .ref h_show_slots, .ref h_show_kept, .ref h_show_settings])), (h_show_transcript, .inr (9, [.int v_show_transcript_segmentCount, .int v_show_transcript_wordCount, .ref h_show_transcript_order, .ref h_show_transcript_durations, .ref h_show_transcript_pauses, .ref h_show_transcript_sizes, .ref h_show_transcript_words, .ref h_show_transcript_names])), (h_show_transcript_order, .inl (cI, 32, .inl v_show_transcript_order)), (h_show_transcript_sizes, .inl (cI, 32, .inl v_show_transcript_sizes)), (h_show_transcript_words, .inl (cI, 256, .inl v_show_transcript_words))] 2 12 := ⟨_, rfl⟩
  rw [← hQ]
  refine gq_loc [(0, .ref h_t_), (1, .int x1), (2, .int x2)] rfl ?_
  have jb24 : F_X10_wordOf_b24  = some r_ → Gx p l e (rmX 7 2) s m args below meth c D A 3 Q 1 6 24 [] [] [(h_t_, .inr (10, [.ref h_show, .ref h_history, .ref h_reader, .ref h_division, .ref h_placement, .ref h_titles, .ref h_page, .int v_stale])), (h_show, .inr (6, [.ref h_show_transcript, .ref h_show_slots, .ref h_show_kept, .ref h_show_settings])), (h_show_transcript, .inr (9, [.int v_show_transcript_segmentCount, .int v_show_transcript_wordCount, .ref h_show_transcript_order, .ref h_show_transcript_durations, .ref h_show_transcript_pauses, .ref h_show_transcript_sizes, .ref h_show_transcript_words, .ref h_show_transcript_names])), (h_show_transcript_order, .inl (cI, 32, .inl v_show_transcript_order)), (h_show_transcript_sizes, .inl (cI, 32, .inl v_show_transcript_sizes)), (h_show_transcript_words, .inl (cI, 256, .inl v_show_transcript_words))] := by
    intro  hF
    have hC := gq_at hC (k' := 1) (n' := 6) ⟨Nat.le_of_ble_eq_true rfl, Nat.le_of_ble_eq_true rfl⟩
    unfold F_X10_wordOf_b24 at hF
    cases hF
    rw [hQ]
    exact gq_throwS (code := 3) (text := "the segment has no such word") hC hex hl (by decide +kernel) ⟨(List.mem_of_getElem? (i := 1) rfl), (List.mem_of_getElem? (i := 2) rfl)⟩ ⟨by decide +kernel, by decide +kernel⟩ (by decide +kernel) hat_3 dX10_wordOf_24 dX10_wordOf_27 dX10_wordOf_28 dX10_wordOf_30 dX10_wordOf_33 ⟨Nat.le_of_ble_eq_true rfl, Nat.le_of_ble_eq_true rfl, Nat.le_of_ble_eq_true rfl, Nat.le_of_ble_eq_true rfl⟩ rfl (Nat.le_of_ble_eq_true rfl) (Nat.le_of_ble_eq_true rfl)
  unfold F_X10_wordOf at hF
  refine gq_aload_n hC 0 dX10_wordOf_0 rfl rfl ?_
  refine gq_iload_n hC 1 dX10_wordOf_1 rfl rfl ?_
  obtain ⟨x_1, hc_, hF⟩ := ob1_e hF
  rcases x_1 with c_2 | r_3
  · have hF := xo_l hF
    have hF := Option.some.inj hF
    subst hF
    rw [hQ]
    exact gq_xxVv (mc := 2) (ms := 12) hC [0, 1, 2] [(h_t_, .inr (10, [.ref h_show, .ref h_history, .ref h_reader, .ref h_division, .ref h_placement, .ref h_titles, .ref h_page, .int v_stale])), (h_show, .inr (6, [.ref h_show_transcript, .ref h_show_slots, .ref h_show_kept, .ref h_show_settings])), (h_show_transcript, .inr (9, [.int v_show_transcript_segmentCount, .int v_show_transcript_wordCount, .ref h_show_transcript_order, .ref h_show_transcript_durations, .ref h_show_transcript_pauses, .ref h_show_transcript_sizes, .ref h_show_transcript_words, .ref h_show_transcript_names])), (h_show_transcript_order, .inl (cI, 32, .inl v_show_transcript_order)), (h_show_transcript_sizes, .inl (cI, 32, .inl v_show_transcript_sizes)), (h_show_transcript_words, .inl (cI, 256, .inl v_show_transcript_words))] [.int x1] [] (k_X10_requireSegment l hl D cI cJ cZ cO z h_t_ h_show h_show_transcript h_history h_reader h_division h_placement h_titles h_page h_show_slots h_show_kept h_show_settings h_show_transcript_order h_show_transcript_durations h_show_transcript_pauses h_show_transcript_sizes h_show_transcript_words h_show_transcript_names x1 v_stale v_show_transcript_segmentCount v_show_transcript_wordCount (.inl c_2) hc_) gX10_wordOf_X10_requireSegment rfl ⟨rfl, rfl⟩ hy_X10_requireSegment ⟨Nat.le_of_ble_eq_true rfl, Nat.le_of_ble_eq_true rfl⟩ ⟨Nat.le_of_ble_eq_true rfl, Nat.le_of_ble_eq_true rfl⟩ rfl rfl rfl (q0 := 0) rfl rfl rfl (Nat.le_of_ble_eq_true rfl) rfl dX10_wordOf_2 rfl rfl hex rfl ⟨Nat.le_of_ble_eq_true rfl, Nat.le_of_ble_eq_true rfl⟩
  · have hF := xo_r hF
    refine gq_xrVv hC [0, 1, 2] [(h_t_, .inr (10, [.ref h_show, .ref h_history, .ref h_reader, .ref h_division, .ref h_placement, .ref h_titles, .ref h_page, .int v_stale])), (h_show, .inr (6, [.ref h_show_transcript, .ref h_show_slots, .ref h_show_kept, .ref h_show_settings])), (h_show_transcript, .inr (9, [.int v_show_transcript_segmentCount, .int v_show_transcript_wordCount, .ref h_show_transcript_order, .ref h_show_transcript_durations, .ref h_show_transcript_pauses, .ref h_show_transcript_sizes, .ref h_show_transcript_words, .ref h_show_transcript_names])), (h_show_transcript_order, .inl (cI, 32, .inl v_show_transcript_order)), (h_show_transcript_sizes, .inl (cI, 32, .inl v_show_transcript_sizes)), (h_show_transcript_words, .inl (cI, 256, .inl v_show_transcript_words))] [.int x1] [] (k_X10_requireSegment l hl D cI cJ cZ cO z h_t_ h_show h_show_transcript h_history h_reader h_division h_placement h_titles h_page h_show_slots h_show_kept h_show_settings h_show_transcript_order h_show_transcript_durations h_show_transcript_pauses h_show_transcript_sizes h_show_transcript_words h_show_transcript_names x1 v_stale v_show_transcript_segmentCount v_show_transcript_wordCount (.inr r_3) hc_) gX10_wordOf_X10_requireSegment rfl ⟨rfl, rfl⟩ hy_X10_requireSegment ⟨Nat.le_of_ble_eq_true rfl, Nat.le_of_ble_eq_true rfl⟩ ⟨Nat.le_of_ble_eq_true rfl, Nat.le_of_ble_eq_true rfl⟩ rfl rfl rfl (q0 := 0) rfl rfl rfl (Nat.le_of_ble_eq_true rfl) rfl dX10_wordOf_2 rfl rfl ?_
    have hC := gq_at hC (k' := 1) (n' := 6) ⟨Nat.le_of_ble_eq_true rfl, Nat.le_of_ble_eq_true rfl⟩
    refine gq_iload_n hC 2 dX10_wordOf_5 rfl rfl ?_
    refine gq_if_lt hC 24 dX10_wordOf_6 (by decide) (fun hc_7 => ?_) (fun hc_7 => ?_)
    · have hF := (if_pos hc_7).symm.trans hF
      refine gq_sub [] [] rfl ?_
      exact jb24  hF
    · have hF := (if_neg hc_7).symm.trans hF
      refine gq_iload_n hC 2 dX10_wordOf_9 rfl rfl ?_
      refine gq_aload_n hC 0 dX10_wordOf_10 rfl rfl ?_
      refine gq_get hC (kf := 0) 0 hin_X10 rfl rfl (by decide) hw_12 rfl dX10_wordOf_11 ?_
      refine gq_get hC (kf := 0) 1 hin_X6 rfl rfl (by decide) hw_102 rfl dX10_wordOf_14 ?_
      refine gq_iload_n hC 1 dX10_wordOf_17 rfl rfl ?_
      obtain ⟨r_4, hc_, hF⟩ := ob1_e hF
      refine gq_callVi hC [2, 3, 4] [(h_t_, .inr (10, [.ref h_show, .ref h_history, .ref h_reader, .ref h_division, .ref h_placement, .ref h_titles, .ref h_page, .int v_stale])), (h_show, .inr (6, [.ref h_show_transcript, .ref h_show_slots, .ref h_show_kept, .ref h_show_settings])), (h_show_transcript, .inr (9, [.int v_show_transcript_segmentCount, .int v_show_transcript_wordCount, .ref h_show_transcript_order, .ref h_show_transcript_durations, .ref h_show_transcript_pauses, .ref h_show_transcript_sizes, .ref h_show_transcript_words, .ref h_show_transcript_names])), (h_show_transcript_order, .inl (cI, 32, .inl v_show_transcript_order)), (h_show_transcript_sizes, .inl (cI, 32, .inl v_show_transcript_sizes)), (h_show_transcript_words, .inl (cI, 256, .inl v_show_transcript_words))] [.int x1] [.int x2] (k_X9_sizeOf l D cI cJ cZ cO z h_show_transcript h_show_transcript_order h_show_transcript_sizes h_show_transcript_durations h_show_transcript_pauses h_show_transcript_words h_show_transcript_names x1 v_show_transcript_segmentCount v_show_transcript_wordCount v_show_transcript_order v_show_transcript_sizes r_4 hc_) gX10_wordOf_X9_sizeOf rfl ⟨rfl, rfl⟩ hy_X9_sizeOf ⟨Nat.le_of_ble_eq_true rfl, Nat.le_of_ble_eq_true rfl⟩ rfl rfl rfl (q0 := 0) rfl rfl rfl (Nat.le_of_ble_eq_true rfl) rfl dX10_wordOf_18 rfl rfl ?_
      refine gq_icmp_lt hC 34 dX10_wordOf_21 (by decide) (fun hc_6 => ?_) (fun hc_6 => ?_)
      · have hF := (if_pos hc_6).symm.trans hF
        refine gq_aload_n hC 0 dX10_wordOf_34 rfl rfl ?_
        refine gq_get hC (kf := 0) 0 hin_X10 rfl rfl (by decide) hw_12 rfl dX10_wordOf_35 ?_
        refine gq_get hC (kf := 0) 1 hin_X6 rfl rfl (by decide) hw_102 rfl dX10_wordOf_38 ?_
        refine gq_iload_n hC 1 dX10_wordOf_41 rfl rfl ?_
        refine gq_iload_n hC 2 dX10_wordOf_42 rfl rfl ?_
        obtain ⟨r_5, hc_, hF⟩ := ob1_e hF
        refine gq_callVi hC [2, 3, 5] [(h_t_, .inr (10, [.ref h_show, .ref h_history, .ref h_reader, .ref h_division, .ref h_placement, .ref h_titles, .ref h_page, .int v_stale])), (h_show, .inr (6, [.ref h_show_transcript, .ref h_show_slots, .ref h_show_kept, .ref h_show_settings])), (h_show_transcript, .inr (9, [.int v_show_transcript_segmentCount, .int v_show_transcript_wordCount, .ref h_show_transcript_order, .ref h_show_transcript_durations, .ref h_show_transcript_pauses, .ref h_show_transcript_sizes, .ref h_show_transcript_words, .ref h_show_transcript_names])), (h_show_transcript_order, .inl (cI, 32, .inl v_show_transcript_order)), (h_show_transcript_sizes, .inl (cI, 32, .inl v_show_transcript_sizes)), (h_show_transcript_words, .inl (cI, 256, .inl v_show_transcript_words))] [.int x1, .int x2] [] (k_X9_wordAt l D cI cJ cZ cO z h_show_transcript h_show_transcript_order h_show_transcript_words h_show_transcript_durations h_show_transcript_pauses h_show_transcript_sizes h_show_transcript_names x1 x2 v_show_transcript_segmentCount v_show_transcript_wordCount v_show_transcript_order v_show_transcript_words r_5 hc_) gX10_wordOf_X9_wordAt rfl ⟨rfl, rfl⟩ hy_X9_wordAt ⟨Nat.le_of_ble_eq_true rfl, Nat.le_of_ble_eq_true rfl⟩ rfl rfl rfl (q0 := 0) rfl rfl rfl (Nat.le_of_ble_eq_true rfl) rfl dX10_wordOf_43 rfl rfl ?_
        cases hF
        rw [hQ]
        exact gq_xiret hC (Nat.le_of_ble_eq_true rfl) (Nat.le_of_ble_eq_true rfl) rfl dX10_wordOf_46
      · have hF := (if_neg hc_6).symm.trans hF
        refine gq_sub [] [] rfl ?_
        exact jb24  hF
theorem hy_X10_requireWord : yX10_requireWord.cls = RX10 ∧ yX10_requireWord.cls ≠ "java/lang/invoke/MethodHandle" ∧ yX10_requireWord.cls ≠ "java/lang/invoke/VarHandle" ∧ (parseMethodDescriptor yX10_requireWord.desc).map (fun d => d.parameters.length) = some 1 := by decide +kernel
set_option maxRecDepth 20000 in
set_option maxHeartbeats 4000000 in
theorem k_X10_requireWord (l : Launch) (hl : l.stackTraces = false) (D : va_G) (cI cJ cZ cO : ClassId) (z : Nat → Nat)  (h_t_ : Nat) (h_show : Nat) (h_show_transcript : Nat) (h_history : Nat) (h_reader : Nat) (h_division : Nat) (h_placement : Nat) (h_titles : Nat) (h_page : Nat) (h_show_slots : Nat) (h_show_kept : Nat) (h_show_settings : Nat) (h_show_transcript_order : Nat) (h_show_transcript_durations : Nat) (h_show_transcript_pauses : Nat) (h_show_transcript_sizes : Nat) (h_show_transcript_words : Nat) (h_show_transcript_names : Nat) (x1 : Int32) (v_stale : Int32) (v_show_transcript_segmentCount : Int32) (v_show_transcript_wordCount : Int32) (r_ : (Nat ⊕ Unit)) (hF : F_X10_requireWord x1 v_show_transcript_wordCount = some r_) : Xv l yX10_requireWord wsX10_requireWord (rmX 6 1) D (gq_ty cI cJ cZ cO) z [.ref h_t_, .int x1] [(h_t_, .inr (10, [.ref h_show, .ref h_history, .ref h_reader, .ref h_division, .ref h_placement, .ref h_titles, .ref h_page, .int v_stale])), (h_show, .inr (6, [.ref h_show_transcript, .ref h_show_slots, .ref h_show_kept, .ref h_show_settings])), (h_show_transcript, .inr (9, [.int v_show_transcript_segmentCount, .int v_show_transcript_wordCount, .ref h_show_transcript_order, .ref h_show_transcript_durations, .ref h_show_transcript_pauses, .ref h_show_transcript_sizes, .ref h_show_transcript_words, .ref h_show_transcript_names]))] r_ [(h_t_, .inr (10, [.ref h_show, .ref h_history, .ref h_reader, .ref h_division, .ref h_placement, .ref h_titles, .ref h_page, .int v_stale])), (h_show, .inr (6, [.ref h_show_transcript, .ref h_show_slots, .ref h_show_kept, .ref h_show_settings])), (h_show_transcript, .inr (9, [.int v_show_transcript_segmentCount, .int v_show_transcript_wordCount, .ref h_show_transcript_order, .ref h_show_transcript_durations, .ref h_show_transcript_pauses, .ref h_show_transcript_sizes, .ref h_show_transcript_words, .ref h_show_transcript_names]))] 1 6 := by
  refine Xv.of (cc := cX10_requireWord) (maxL := 2) (by decide) rfl (Nat.le_of_ble_eq_true rfl) ?_
  intro p e s m args below meth c A hC hex
  have hin_X10 : ∀ w ∈ wsX100, w ∈ wsX10_requireWord := fun w h => List.mem_cons_of_mem _ (List.mem_append_left _ (List.mem_append_left _ (List.mem_append_left _ (List.mem_append_right _ h))))
  have hin_X6 : ∀ w ∈ wsX60, w ∈ wsX10_requireWord := fun w h => List.mem_cons_of_mem _ (List.mem_append_left _ (List.mem_append_left _ (List.mem_append_right _ h)))
  have hin_X9 : ∀ w ∈ wsX90, w ∈ wsX10_requireWord := fun w h => List.mem_cons_of_mem _ (List.mem_append_left _ (List.mem_append_right _ h))
  have hw_12 : Cond.fieldLink RX10 12 (TX10 0).1 (TX10 0).2.1 (TX10 0).2.2.1 ∈ wsX10_requireWord := (List.mem_of_getElem? (i := 3) rfl)
  have hw_102 : Cond.fieldLink RX10 102 (TX6 0).1 (TX6 0).2.1 (TX6 0).2.2.1 ∈ wsX10_requireWord := (List.mem_of_getElem? (i := 4) rfl)
  have hw_114 : Cond.fieldLink RX10 114 (TX9 1).1 (TX9 1).2.1 (TX9 1).2.2.1 ∈ wsX10_requireWord := (List.mem_of_getElem? (i := 5) rfl)
  obtain ⟨Q, hQ⟩ : ∃ Q, Q = gq_Xv below D A args s r_ [(h_t_, .inr (10, [.ref h_show, .ref h_history, .ref h_reader, .ref h_division, .ref h_placement, .ref h_titles, .ref h_page, .int v_stale])), (h_show, .inr (6, [.ref h_show_transcript, .ref h_show_slots, .ref h_show_kept, .ref h_show_settings])), (h_show_transcript, .inr (9, [.int v_show_transcript_segmentCount, .int v_show_transcript_wordCount, .ref h_show_transcript_order, .ref h_show_transcript_durations, .ref h_show_transcript_pauses, .ref h_show_transcript_sizes, .ref h_show_transcript_words, .ref h_show_transcript_names]))] 1 6 := ⟨_, rfl⟩
  rw [← hQ]
  refine gq_loc [(0, .ref h_t_), (1, .int x1)] rfl ?_
  have jb18 : F_X10_requireWord_b18  = some r_ → Gx p l e (rmX 6 1) s m args below meth c D A 2 Q 0 0 18 [] [] [(h_t_, .inr (10, [.ref h_show, .ref h_history, .ref h_reader, .ref h_division, .ref h_placement, .ref h_titles, .ref h_page, .int v_stale])), (h_show, .inr (6, [.ref h_show_transcript, .ref h_show_slots, .ref h_show_kept, .ref h_show_settings])), (h_show_transcript, .inr (9, [.int v_show_transcript_segmentCount, .int v_show_transcript_wordCount, .ref h_show_transcript_order, .ref h_show_transcript_durations, .ref h_show_transcript_pauses, .ref h_show_transcript_sizes, .ref h_show_transcript_words, .ref h_show_transcript_names]))] := by
    intro  hF
    unfold F_X10_requireWord_b18 at hF
    cases hF
    rw [hQ]
    exact gq_throwSW (code := 3) (text := "there is no such word") hC hex hl (by decide +kernel) ⟨(List.mem_of_getElem? (i := 1) rfl), (List.mem_of_getElem? (i := 2) rfl)⟩ ⟨by decide +kernel, by decide +kernel⟩ (by decide +kernel) hat_3 dX10_requireWord_18 dX10_requireWord_21 dX10_requireWord_22 dX10_requireWord_25 dX10_requireWord_28 ⟨Nat.le_of_ble_eq_true rfl, Nat.le_of_ble_eq_true rfl, Nat.le_of_ble_eq_true rfl, Nat.le_of_ble_eq_true rfl⟩ rfl (Nat.le_of_ble_eq_true rfl) (Nat.le_of_ble_eq_true rfl)
  unfold F_X10_requireWord at hF
  refine gq_iload_n hC 1 dX10_requireWord_0 rfl rfl ?_
  refine gq_if_lt hC 18 dX10_requireWord_1 (by decide) (fun hc_2 => ?_) (fun hc_2 => ?_)
  · have hF := (if_pos hc_2).symm.trans hF
    refine gq_sub [] [] rfl ?_
    exact jb18  hF
  · have hF := (if_neg hc_2).symm.trans hF
    refine gq_iload_n hC 1 dX10_requireWord_4 rfl rfl ?_
    refine gq_aload_n hC 0 dX10_requireWord_5 rfl rfl ?_
    refine gq_get hC (kf := 0) 0 hin_X10 rfl rfl (by decide) hw_12 rfl dX10_requireWord_6 ?_
    refine gq_get hC (kf := 0) 1 hin_X6 rfl rfl (by decide) hw_102 rfl dX10_requireWord_9 ?_
    refine gq_get hC (kf := 1) 2 hin_X9 rfl rfl (by decide) hw_114 rfl dX10_requireWord_12 ?_
    refine gq_icmp_lt hC 29 dX10_requireWord_15 (by decide) (fun hc_1 => ?_) (fun hc_1 => ?_)
    · have hF := (if_pos hc_1).symm.trans hF
      cases hF
      rw [hQ]
      exact gq_xvret hC (Nat.le_of_ble_eq_true rfl) (Nat.le_of_ble_eq_true rfl) dX10_requireWord_29
    · have hF := (if_neg hc_1).symm.trans hF
      refine gq_sub [] [] rfl ?_
      exact jb18  hF
theorem hy_X10_uses : yX10_uses.cls = RX10 ∧ yX10_uses.cls ≠ "java/lang/invoke/MethodHandle" ∧ yX10_uses.cls ≠ "java/lang/invoke/VarHandle" ∧ (parseMethodDescriptor yX10_uses.desc).map (fun d => d.parameters.length) = some 3 := by decide +kernel
set_option maxRecDepth 20000 in
set_option maxHeartbeats 4000000 in
theorem k_X10_uses (l : Launch) (hl : l.stackTraces = false) (D : va_G) (cI cJ cZ cO : ClassId) (z : Nat → Nat)  (h_t_ : Nat) (h_show : Nat) (h_show_transcript : Nat) (h_show_transcript_order : Nat) (h_show_transcript_sizes : Nat) (h_show_transcript_words : Nat) (h_history : Nat) (h_reader : Nat) (h_division : Nat) (h_placement : Nat) (h_titles : Nat) (h_page : Nat) (h_show_slots : Nat) (h_show_kept : Nat) (h_show_settings : Nat) (h_show_transcript_durations : Nat) (h_show_transcript_pauses : Nat) (h_show_transcript_names : Nat) (x1 : Int32) (x2 : Int32) (x3 : Int32) (v_stale : Int32) (v_show_transcript_segmentCount : Int32) (v_show_transcript_wordCount : Int32) (v_show_transcript_order : Nat → Int32) (v_show_transcript_sizes : Nat → Int32) (v_show_transcript_words : Nat → Int32) (r_ : (Nat ⊕ Int32)) (hF : F_X10_uses x1 x2 x3 v_show_transcript_segmentCount v_show_transcript_wordCount v_show_transcript_order v_show_transcript_sizes v_show_transcript_words = some r_) : Xi l yX10_uses wsX10_uses (rmX 7 4) D (gq_ty cI cJ cZ cO) z [.ref h_t_, .int x1, .int x2, .int x3] [(h_t_, .inr (10, [.ref h_show, .ref h_history, .ref h_reader, .ref h_division, .ref h_placement, .ref h_titles, .ref h_page, .int v_stale])), (h_show, .inr (6, [.ref h_show_transcript, .ref h_show_slots, .ref h_show_kept, .ref h_show_settings])), (h_show_transcript, .inr (9, [.int v_show_transcript_segmentCount, .int v_show_transcript_wordCount, .ref h_show_transcript_order, .ref h_show_transcript_durations, .ref h_show_transcript_pauses, .ref h_show_transcript_sizes, .ref h_show_transcript_words, .ref h_show_transcript_names])), (h_show_transcript_order, .inl (cI, 32, .inl v_show_transcript_order)), (h_show_transcript_sizes, .inl (cI, 32, .inl v_show_transcript_sizes)), (h_show_transcript_words, .inl (cI, 256, .inl v_show_transcript_words))] r_ [(h_t_, .inr (10, [.ref h_show, .ref h_history, .ref h_reader, .ref h_division, .ref h_placement, .ref h_titles, .ref h_page, .int v_stale])), (h_show, .inr (6, [.ref h_show_transcript, .ref h_show_slots, .ref h_show_kept, .ref h_show_settings])), (h_show_transcript, .inr (9, [.int v_show_transcript_segmentCount, .int v_show_transcript_wordCount, .ref h_show_transcript_order, .ref h_show_transcript_durations, .ref h_show_transcript_pauses, .ref h_show_transcript_sizes, .ref h_show_transcript_words, .ref h_show_transcript_names])), (h_show_transcript_order, .inl (cI, 32, .inl v_show_transcript_order)), (h_show_transcript_sizes, .inl (cI, 32, .inl v_show_transcript_sizes)), (h_show_transcript_words, .inl (cI, 256, .inl v_show_transcript_words))] 4 24 := by
  refine Xi.of (cc := cX10_uses) (maxL := 4) (by decide) rfl (Nat.le_of_ble_eq_true rfl) ?_
  intro p e s m args below meth c A hC hex
  have hin_X10 : ∀ w ∈ wsX100, w ∈ wsX10_uses := fun w h => List.mem_cons_of_mem _ (List.mem_append_left _ (List.mem_append_left _ (List.mem_append_left _ (List.mem_append_left _ (List.mem_append_right _ h)))))
  have hin_X6 : ∀ w ∈ wsX60, w ∈ wsX10_uses := fun w h => List.mem_cons_of_mem _ (List.mem_append_left _ (List.mem_append_left _ (List.mem_append_left _ (List.mem_append_right _ h))))
  have hw_12 : Cond.fieldLink RX10 12 (TX10 0).1 (TX10 0).2.1 (TX10 0).2.2.1 ∈ wsX10_uses := (List.mem_of_getElem? (i := 3) rfl)
  have hw_102 : Cond.fieldLink RX10 102 (TX6 0).1 (TX6 0).2.1 (TX6 0).2.2.1 ∈ wsX10_uses := (List.mem_of_getElem? (i := 4) rfl)
  obtain ⟨Q, hQ⟩ : ∃ Q, Q = gq_Xi below D A args s r_ [(h_t_, .inr (10, [.ref h_show, .ref h_history, .ref h_reader, .ref h_division, .ref h_placement, .ref h_titles, .ref h_page, .int v_stale])), (h_show, .inr (6, [.ref h_show_transcript, .ref h_show_slots, .ref h_show_kept, .ref h_show_settings])), (h_show_transcript, .inr (9, [.int v_show_transcript_segmentCount, .int v_show_transcript_wordCount, .ref h_show_transcript_order, .ref h_show_transcript_durations, .ref h_show_transcript_pauses, .ref h_show_transcript_sizes, .ref h_show_transcript_words, .ref h_show_transcript_names])), (h_show_transcript_order, .inl (cI, 32, .inl v_show_transcript_order)), (h_show_transcript_sizes, .inl (cI, 32, .inl v_show_transcript_sizes)), (h_show_transcript_words, .inl (cI, 256, .inl v_show_transcript_words))] 4 24 := ⟨_, rfl⟩
  rw [← hQ]
  refine gq_loc [(0, .ref h_t_), (1, .int x1), (2, .int x2), (3, .int x3)] rfl ?_
  unfold F_X10_uses at hF
  refine gq_aload_n hC 0 dX10_uses_0 rfl rfl ?_
  refine gq_iload_n hC 1 dX10_uses_1 rfl rfl ?_
  obtain ⟨x_1, hc_, hF⟩ := ob1_e hF
  rcases x_1 with c_2 | r_3
  · have hF := xo_l hF
    have hF := Option.some.inj hF
    subst hF
    rw [hQ]
    exact gq_xxVv (mc := 4) (ms := 24) hC [0, 1, 2] [(h_t_, .inr (10, [.ref h_show, .ref h_history, .ref h_reader, .ref h_division, .ref h_placement, .ref h_titles, .ref h_page, .int v_stale])), (h_show, .inr (6, [.ref h_show_transcript, .ref h_show_slots, .ref h_show_kept, .ref h_show_settings])), (h_show_transcript, .inr (9, [.int v_show_transcript_segmentCount, .int v_show_transcript_wordCount, .ref h_show_transcript_order, .ref h_show_transcript_durations, .ref h_show_transcript_pauses, .ref h_show_transcript_sizes, .ref h_show_transcript_words, .ref h_show_transcript_names])), (h_show_transcript_order, .inl (cI, 32, .inl v_show_transcript_order)), (h_show_transcript_sizes, .inl (cI, 32, .inl v_show_transcript_sizes)), (h_show_transcript_words, .inl (cI, 256, .inl v_show_transcript_words))] [.int x1] [] (k_X10_requireWord l hl D cI cJ cZ cO z h_t_ h_show h_show_transcript h_history h_reader h_division h_placement h_titles h_page h_show_slots h_show_kept h_show_settings h_show_transcript_order h_show_transcript_durations h_show_transcript_pauses h_show_transcript_sizes h_show_transcript_words h_show_transcript_names x1 v_stale v_show_transcript_segmentCount v_show_transcript_wordCount (.inl c_2) hc_) gX10_uses_X10_requireWord rfl ⟨rfl, rfl⟩ hy_X10_requireWord ⟨Nat.le_of_ble_eq_true rfl, Nat.le_of_ble_eq_true rfl⟩ ⟨Nat.le_of_ble_eq_true rfl, Nat.le_of_ble_eq_true rfl⟩ rfl rfl rfl (q0 := 0) rfl rfl rfl (Nat.le_of_ble_eq_true rfl) rfl dX10_uses_2 rfl rfl hex rfl ⟨Nat.le_of_ble_eq_true rfl, Nat.le_of_ble_eq_true rfl⟩
  · have hF := xo_r hF
    refine gq_xrVv hC [0, 1, 2] [(h_t_, .inr (10, [.ref h_show, .ref h_history, .ref h_reader, .ref h_division, .ref h_placement, .ref h_titles, .ref h_page, .int v_stale])), (h_show, .inr (6, [.ref h_show_transcript, .ref h_show_slots, .ref h_show_kept, .ref h_show_settings])), (h_show_transcript, .inr (9, [.int v_show_transcript_segmentCount, .int v_show_transcript_wordCount, .ref h_show_transcript_order, .ref h_show_transcript_durations, .ref h_show_transcript_pauses, .ref h_show_transcript_sizes, .ref h_show_transcript_words, .ref h_show_transcript_names])), (h_show_transcript_order, .inl (cI, 32, .inl v_show_transcript_order)), (h_show_transcript_sizes, .inl (cI, 32, .inl v_show_transcript_sizes)), (h_show_transcript_words, .inl (cI, 256, .inl v_show_transcript_words))] [.int x1] [] (k_X10_requireWord l hl D cI cJ cZ cO z h_t_ h_show h_show_transcript h_history h_reader h_division h_placement h_titles h_page h_show_slots h_show_kept h_show_settings h_show_transcript_order h_show_transcript_durations h_show_transcript_pauses h_show_transcript_sizes h_show_transcript_words h_show_transcript_names x1 v_stale v_show_transcript_segmentCount v_show_transcript_wordCount (.inr r_3) hc_) gX10_uses_X10_requireWord rfl ⟨rfl, rfl⟩ hy_X10_requireWord ⟨Nat.le_of_ble_eq_true rfl, Nat.le_of_ble_eq_true rfl⟩ ⟨Nat.le_of_ble_eq_true rfl, Nat.le_of_ble_eq_true rfl⟩ rfl rfl rfl (q0 := 0) rfl rfl rfl (Nat.le_of_ble_eq_true rfl) rfl dX10_uses_2 rfl rfl ?_
    have hC := gq_at hC (k' := 1) (n' := 6) ⟨Nat.le_of_ble_eq_true rfl, Nat.le_of_ble_eq_true rfl⟩
    refine gq_aload_n hC 0 dX10_uses_5 rfl rfl ?_
    refine gq_iload_n hC 2 dX10_uses_6 rfl rfl ?_
    obtain ⟨x_4, hc_, hF⟩ := ob1_e hF
    rcases x_4 with c_5 | r_6
    · have hF := xo_l hF
      have hF := Option.some.inj hF
      subst hF
      rw [hQ]
      exact gq_xxVv (mc := 4) (ms := 24) hC [0, 1, 2] [(h_t_, .inr (10, [.ref h_show, .ref h_history, .ref h_reader, .ref h_division, .ref h_placement, .ref h_titles, .ref h_page, .int v_stale])), (h_show, .inr (6, [.ref h_show_transcript, .ref h_show_slots, .ref h_show_kept, .ref h_show_settings])), (h_show_transcript, .inr (9, [.int v_show_transcript_segmentCount, .int v_show_transcript_wordCount, .ref h_show_transcript_order, .ref h_show_transcript_durations, .ref h_show_transcript_pauses, .ref h_show_transcript_sizes, .ref h_show_transcript_words, .ref h_show_transcript_names])), (h_show_transcript_order, .inl (cI, 32, .inl v_show_transcript_order)), (h_show_transcript_sizes, .inl (cI, 32, .inl v_show_transcript_sizes)), (h_show_transcript_words, .inl (cI, 256, .inl v_show_transcript_words))] [.int x2] [] (k_X10_requireSegment l hl D cI cJ cZ cO z h_t_ h_show h_show_transcript h_history h_reader h_division h_placement h_titles h_page h_show_slots h_show_kept h_show_settings h_show_transcript_order h_show_transcript_durations h_show_transcript_pauses h_show_transcript_sizes h_show_transcript_words h_show_transcript_names x2 v_stale v_show_transcript_segmentCount v_show_transcript_wordCount (.inl c_5) hc_) gX10_uses_X10_requireSegment rfl ⟨rfl, rfl⟩ hy_X10_requireSegment ⟨Nat.le_of_ble_eq_true rfl, Nat.le_of_ble_eq_true rfl⟩ ⟨Nat.le_of_ble_eq_true rfl, Nat.le_of_ble_eq_true rfl⟩ rfl rfl rfl (q0 := 0) rfl rfl rfl (Nat.le_of_ble_eq_true rfl) rfl dX10_uses_7 rfl rfl hex rfl ⟨Nat.le_of_ble_eq_true rfl, Nat.le_of_ble_eq_true rfl⟩
    · have hF := xo_r hF
      refine gq_xrVv hC [0, 1, 2] [(h_t_, .inr (10, [.ref h_show, .ref h_history, .ref h_reader, .ref h_division, .ref h_placement, .ref h_titles, .ref h_page, .int v_stale])), (h_show, .inr (6, [.ref h_show_transcript, .ref h_show_slots, .ref h_show_kept, .ref h_show_settings])), (h_show_transcript, .inr (9, [.int v_show_transcript_segmentCount, .int v_show_transcript_wordCount, .ref h_show_transcript_order, .ref h_show_transcript_durations, .ref h_show_transcript_pauses, .ref h_show_transcript_sizes, .ref h_show_transcript_words, .ref h_show_transcript_names])), (h_show_transcript_order, .inl (cI, 32, .inl v_show_transcript_order)), (h_show_transcript_sizes, .inl (cI, 32, .inl v_show_transcript_sizes)), (h_show_transcript_words, .inl (cI, 256, .inl v_show_transcript_words))] [.int x2] [] (k_X10_requireSegment l hl D cI cJ cZ cO z h_t_ h_show h_show_transcript h_history h_reader h_division h_placement h_titles h_page h_show_slots h_show_kept h_show_settings h_show_transcript_order h_show_transcript_durations h_show_transcript_pauses h_show_transcript_sizes h_show_transcript_words h_show_transcript_names x2 v_stale v_show_transcript_segmentCount v_show_transcript_wordCount (.inr r_6) hc_) gX10_uses_X10_requireSegment rfl ⟨rfl, rfl⟩ hy_X10_requireSegment ⟨Nat.le_of_ble_eq_true rfl, Nat.le_of_ble_eq_true rfl⟩ ⟨Nat.le_of_ble_eq_true rfl, Nat.le_of_ble_eq_true rfl⟩ rfl rfl rfl (q0 := 0) rfl rfl rfl (Nat.le_of_ble_eq_true rfl) rfl dX10_uses_7 rfl rfl ?_
      have hC := gq_at hC (k' := 2) (n' := 12) ⟨Nat.le_of_ble_eq_true rfl, Nat.le_of_ble_eq_true rfl⟩
      refine gq_aload_n hC 0 dX10_uses_10 rfl rfl ?_
      refine gq_iload_n hC 3 dX10_uses_11 rfl rfl ?_
      obtain ⟨x_7, hc_, hF⟩ := ob1_e hF
      rcases x_7 with c_8 | r_9
      · have hF := xo_l hF
        have hF := Option.some.inj hF
        subst hF
        rw [hQ]
        exact gq_xxVv (mc := 4) (ms := 24) hC [0, 1, 2] [(h_t_, .inr (10, [.ref h_show, .ref h_history, .ref h_reader, .ref h_division, .ref h_placement, .ref h_titles, .ref h_page, .int v_stale])), (h_show, .inr (6, [.ref h_show_transcript, .ref h_show_slots, .ref h_show_kept, .ref h_show_settings])), (h_show_transcript, .inr (9, [.int v_show_transcript_segmentCount, .int v_show_transcript_wordCount, .ref h_show_transcript_order, .ref h_show_transcript_durations, .ref h_show_transcript_pauses, .ref h_show_transcript_sizes, .ref h_show_transcript_words, .ref h_show_transcript_names])), (h_show_transcript_order, .inl (cI, 32, .inl v_show_transcript_order)), (h_show_transcript_sizes, .inl (cI, 32, .inl v_show_transcript_sizes)), (h_show_transcript_words, .inl (cI, 256, .inl v_show_transcript_words))] [.int x3] [] (k_X10_requireSegment l hl D cI cJ cZ cO z h_t_ h_show h_show_transcript h_history h_reader h_division h_placement h_titles h_page h_show_slots h_show_kept h_show_settings h_show_transcript_order h_show_transcript_durations h_show_transcript_pauses h_show_transcript_sizes h_show_transcript_words h_show_transcript_names x3 v_stale v_show_transcript_segmentCount v_show_transcript_wordCount (.inl c_8) hc_) gX10_uses_X10_requireSegment rfl ⟨rfl, rfl⟩ hy_X10_requireSegment ⟨Nat.le_of_ble_eq_true rfl, Nat.le_of_ble_eq_true rfl⟩ ⟨Nat.le_of_ble_eq_true rfl, Nat.le_of_ble_eq_true rfl⟩ rfl rfl rfl (q0 := 0) rfl rfl rfl (Nat.le_of_ble_eq_true rfl) rfl dX10_uses_12 rfl rfl hex rfl ⟨Nat.le_of_ble_eq_true rfl, Nat.le_of_ble_eq_true rfl⟩
      · have hF := xo_r hF
        refine gq_xrVv hC [0, 1, 2] [(h_t_, .inr (10, [.ref h_show, .ref h_history, .ref h_reader, .ref h_division, .ref h_placement, .ref h_titles, .ref h_page, .int v_stale])), (h_show, .inr (6, [.ref h_show_transcript, .ref h_show_slots, .ref h_show_kept, .ref h_show_settings])), (h_show_transcript, .inr (9, [.int v_show_transcript_segmentCount, .int v_show_transcript_wordCount, .ref h_show_transcript_order, .ref h_show_transcript_durations, .ref h_show_transcript_pauses, .ref h_show_transcript_sizes, .ref h_show_transcript_words, .ref h_show_transcript_names])), (h_show_transcript_order, .inl (cI, 32, .inl v_show_transcript_order)), (h_show_transcript_sizes, .inl (cI, 32, .inl v_show_transcript_sizes)), (h_show_transcript_words, .inl (cI, 256, .inl v_show_transcript_words))] [.int x3] [] (k_X10_requireSegment l hl D cI cJ cZ cO z h_t_ h_show h_show_transcript h_history h_reader h_division h_placement h_titles h_page h_show_slots h_show_kept h_show_settings h_show_transcript_order h_show_transcript_durations h_show_transcript_pauses h_show_transcript_sizes h_show_transcript_words h_show_transcript_names x3 v_stale v_show_transcript_segmentCount v_show_transcript_wordCount (.inr r_9) hc_) gX10_uses_X10_requireSegment rfl ⟨rfl, rfl⟩ hy_X10_requireSegment ⟨Nat.le_of_ble_eq_true rfl, Nat.le_of_ble_eq_true rfl⟩ ⟨Nat.le_of_ble_eq_true rfl, Nat.le_of_ble_eq_true rfl⟩ rfl rfl rfl (q0 := 0) rfl rfl rfl (Nat.le_of_ble_eq_true rfl) rfl dX10_uses_12 rfl rfl ?_
        have hC := gq_at hC (k' := 3) (n' := 18) ⟨Nat.le_of_ble_eq_true rfl, Nat.le_of_ble_eq_true rfl⟩
        refine gq_iload_n hC 3 dX10_uses_15 rfl rfl ?_
        refine gq_iload_n hC 2 dX10_uses_16 rfl rfl ?_
        refine gq_icmp_ge hC 30 dX10_uses_17 (by decide) (fun hc_11 => ?_) (fun hc_11 => ?_)
        · have hF := (if_pos hc_11).symm.trans hF
          refine gq_aload_n hC 0 dX10_uses_30 rfl rfl ?_
          refine gq_get hC (kf := 0) 0 hin_X10 rfl rfl (by decide) hw_12 rfl dX10_uses_31 ?_
          refine gq_get hC (kf := 0) 1 hin_X6 rfl rfl (by decide) hw_102 rfl dX10_uses_34 ?_
          refine gq_iload_n hC 1 dX10_uses_37 rfl rfl ?_
          refine gq_iload_n hC 2 dX10_uses_38 rfl rfl ?_
          refine gq_iload_n hC 3 dX10_uses_39 rfl rfl ?_
          obtain ⟨r_10, hc_, hF⟩ := ob1_e hF
          refine gq_callVi hC [2, 3, 4, 5] [(h_t_, .inr (10, [.ref h_show, .ref h_history, .ref h_reader, .ref h_division, .ref h_placement, .ref h_titles, .ref h_page, .int v_stale])), (h_show, .inr (6, [.ref h_show_transcript, .ref h_show_slots, .ref h_show_kept, .ref h_show_settings])), (h_show_transcript, .inr (9, [.int v_show_transcript_segmentCount, .int v_show_transcript_wordCount, .ref h_show_transcript_order, .ref h_show_transcript_durations, .ref h_show_transcript_pauses, .ref h_show_transcript_sizes, .ref h_show_transcript_words, .ref h_show_transcript_names])), (h_show_transcript_order, .inl (cI, 32, .inl v_show_transcript_order)), (h_show_transcript_sizes, .inl (cI, 32, .inl v_show_transcript_sizes)), (h_show_transcript_words, .inl (cI, 256, .inl v_show_transcript_words))] [.int x1, .int x2, .int x3] [] (k_X9_countIn l D cI cJ cZ cO z h_show_transcript h_show_transcript_order h_show_transcript_sizes h_show_transcript_words h_show_transcript_durations h_show_transcript_pauses h_show_transcript_names x1 x2 x3 v_show_transcript_segmentCount v_show_transcript_wordCount v_show_transcript_order v_show_transcript_sizes v_show_transcript_words r_10 hc_) gX10_uses_X9_countIn rfl ⟨rfl, rfl⟩ hy_X9_countIn ⟨Nat.le_of_ble_eq_true rfl, Nat.le_of_ble_eq_true rfl⟩ rfl rfl rfl (q0 := 0) rfl rfl rfl (Nat.le_of_ble_eq_true rfl) rfl dX10_uses_40 rfl rfl ?_
          cases hF
          rw [hQ]
          exact gq_xiret hC (Nat.le_of_ble_eq_true rfl) (Nat.le_of_ble_eq_true rfl) rfl dX10_uses_43
        · have hF := (if_neg hc_11).symm.trans hF
          cases hF
          rw [hQ]
          exact gq_throwS (code := 2) (text := "the last segment is below the first one") hC hex hl (by decide +kernel) ⟨(List.mem_of_getElem? (i := 1) rfl), (List.mem_of_getElem? (i := 2) rfl)⟩ ⟨by decide +kernel, by decide +kernel⟩ (by decide +kernel) hat_2 dX10_uses_20 dX10_uses_23 dX10_uses_24 dX10_uses_26 dX10_uses_29 ⟨Nat.le_of_ble_eq_true rfl, Nat.le_of_ble_eq_true rfl, Nat.le_of_ble_eq_true rfl, Nat.le_of_ble_eq_true rfl⟩ rfl (Nat.le_of_ble_eq_true rfl) (Nat.le_of_ble_eq_true rfl)
theorem hy_X10_segmentAt : yX10_segmentAt.cls = RX10 ∧ yX10_segmentAt.cls ≠ "java/lang/invoke/MethodHandle" ∧ yX10_segmentAt.cls ≠ "java/lang/invoke/VarHandle" ∧ (parseMethodDescriptor yX10_segmentAt.desc).map (fun d => d.parameters.length) = some 1 := by decide +kernel
set_option maxRecDepth 20000 in
set_option maxHeartbeats 4000000 in
theorem k_X10_segmentAt (l : Launch) (D : va_G) (cI cJ cZ cO : ClassId) (z : Nat → Nat)   (h_t_ : Nat) (h_show : Nat) (h_show_transcript : Nat) (h_show_transcript_order : Nat) (h_show_transcript_durations : Nat) (h_history : Nat) (h_reader : Nat) (h_division : Nat) (h_placement : Nat) (h_titles : Nat) (h_page : Nat) (h_show_slots : Nat) (h_show_kept : Nat) (h_show_settings : Nat) (h_show_transcript_pauses : Nat) (h_show_transcript_sizes : Nat) (h_show_transcript_words : Nat) (h_show_transcript_names : Nat) (x1 : Int32) (v_stale : Int32) (v_show_transcript_segmentCount : Int32) (v_show_transcript_wordCount : Int32) (v_show_transcript_order : Nat → Int32) (v_show_transcript_durations : Nat → Int32) (r_ : Int32) (hF : F_X10_segmentAt x1 v_show_transcript_segmentCount v_show_transcript_order v_show_transcript_durations = some r_) : Mi l yX10_segmentAt wsX10_segmentAt (rmD 2) D (gq_ty cI cJ cZ cO) z [.ref h_t_, .int x1] [(h_t_, .inr (10, [.ref h_show, .ref h_history, .ref h_reader, .ref h_division, .ref h_placement, .ref h_titles, .ref h_page, .int v_stale])), (h_show, .inr (6, [.ref h_show_transcript, .ref h_show_slots, .ref h_show_kept, .ref h_show_settings])), (h_show_transcript, .inr (9, [.int v_show_transcript_segmentCount, .int v_show_transcript_wordCount, .ref h_show_transcript_order, .ref h_show_transcript_durations, .ref h_show_transcript_pauses, .ref h_show_transcript_sizes, .ref h_show_transcript_words, .ref h_show_transcript_names])), (h_show_transcript_order, .inl (cI, 32, .inl v_show_transcript_order)), (h_show_transcript_durations, .inl (cI, 32, .inl v_show_transcript_durations))] r_ [(h_t_, .inr (10, [.ref h_show, .ref h_history, .ref h_reader, .ref h_division, .ref h_placement, .ref h_titles, .ref h_page, .int v_stale])), (h_show, .inr (6, [.ref h_show_transcript, .ref h_show_slots, .ref h_show_kept, .ref h_show_settings])), (h_show_transcript, .inr (9, [.int v_show_transcript_segmentCount, .int v_show_transcript_wordCount, .ref h_show_transcript_order, .ref h_show_transcript_durations, .ref h_show_transcript_pauses, .ref h_show_transcript_sizes, .ref h_show_transcript_words, .ref h_show_transcript_names])), (h_show_transcript_order, .inl (cI, 32, .inl v_show_transcript_order)), (h_show_transcript_durations, .inl (cI, 32, .inl v_show_transcript_durations))] 0 0 := by
  refine Mi.of (cc := cX10_segmentAt) (maxL := 2) (by decide) rfl (Nat.le_of_ble_eq_true rfl) ⟨Nat.le_refl 0, Nat.le_refl 0⟩ ?_
  intro p e s m args below meth c A hC ha
  have hin_X10 : ∀ w ∈ wsX100, w ∈ wsX10_segmentAt := fun w h => List.mem_cons_of_mem _ (List.mem_append_left _ (List.mem_append_left _ (List.mem_append_right _ h)))
  have hin_X6 : ∀ w ∈ wsX60, w ∈ wsX10_segmentAt := fun w h => List.mem_cons_of_mem _ (List.mem_append_left _ (List.mem_append_right _ h))
  have hw_12 : Cond.fieldLink RX10 12 (TX10 0).1 (TX10 0).2.1 (TX10 0).2.2.1 ∈ wsX10_segmentAt := (List.mem_of_getElem? (i := 1) rfl)
  have hw_102 : Cond.fieldLink RX10 102 (TX6 0).1 (TX6 0).2.1 (TX6 0).2.2.1 ∈ wsX10_segmentAt := (List.mem_of_getElem? (i := 2) rfl)
  obtain ⟨Q, hQ⟩ : ∃ Q, Q = gq_Qi below D A args s r_ [(h_t_, .inr (10, [.ref h_show, .ref h_history, .ref h_reader, .ref h_division, .ref h_placement, .ref h_titles, .ref h_page, .int v_stale])), (h_show, .inr (6, [.ref h_show_transcript, .ref h_show_slots, .ref h_show_kept, .ref h_show_settings])), (h_show_transcript, .inr (9, [.int v_show_transcript_segmentCount, .int v_show_transcript_wordCount, .ref h_show_transcript_order, .ref h_show_transcript_durations, .ref h_show_transcript_pauses, .ref h_show_transcript_sizes, .ref h_show_transcript_words, .ref h_show_transcript_names])), (h_show_transcript_order, .inl (cI, 32, .inl v_show_transcript_order)), (h_show_transcript_durations, .inl (cI, 32, .inl v_show_transcript_durations))] 0 0 := ⟨_, rfl⟩
  rw [← hQ]
  refine gq_loc [(0, .ref h_t_), (1, .int x1)] rfl ?_
  unfold F_X10_segmentAt at hF
  refine gq_aload_n hC 0 dX10_segmentAt_0 rfl rfl ?_
  refine gq_get hC (kf := 0) 0 hin_X10 rfl rfl (by decide) hw_12 rfl dX10_segmentAt_1 ?_
  refine gq_get hC (kf := 0) 1 hin_X6 rfl rfl (by decide) hw_102 rfl dX10_segmentAt_4 ?_
  refine gq_iload_n hC 1 dX10_segmentAt_7 rfl rfl ?_
  obtain ⟨r_1, hc_, hF⟩ := ob1_e hF
  refine gq_callVi hC [2, 3, 4] [(h_t_, .inr (10, [.ref h_show, .ref h_history, .ref h_reader, .ref h_division, .ref h_placement, .ref h_titles, .ref h_page, .int v_stale])), (h_show, .inr (6, [.ref h_show_transcript, .ref h_show_slots, .ref h_show_kept, .ref h_show_settings])), (h_show_transcript, .inr (9, [.int v_show_transcript_segmentCount, .int v_show_transcript_wordCount, .ref h_show_transcript_order, .ref h_show_transcript_durations, .ref h_show_transcript_pauses, .ref h_show_transcript_sizes, .ref h_show_transcript_words, .ref h_show_transcript_names])), (h_show_transcript_order, .inl (cI, 32, .inl v_show_transcript_order)), (h_show_transcript_durations, .inl (cI, 32, .inl v_show_transcript_durations))] [.int x1] [] (k_X9_segmentSpokenAt l D cI cJ cZ cO z h_show_transcript h_show_transcript_order h_show_transcript_durations h_show_transcript_pauses h_show_transcript_sizes h_show_transcript_words h_show_transcript_names x1 v_show_transcript_segmentCount v_show_transcript_wordCount v_show_transcript_order v_show_transcript_durations r_1 hc_) gX10_segmentAt_X9_segmentSpokenAt rfl ⟨rfl, rfl⟩ hy_X9_segmentSpokenAt ⟨Nat.le_of_ble_eq_true rfl, Nat.le_of_ble_eq_true rfl⟩ rfl rfl rfl (q0 := 0) rfl rfl rfl (Nat.le_of_ble_eq_true rfl) rfl dX10_segmentAt_8 rfl rfl ?_
  cases hF
  rw [hQ]
  exact gq_iret hC rfl dX10_segmentAt_11
theorem hy_X10_requireSlot : yX10_requireSlot.cls = RX10 ∧ yX10_requireSlot.cls ≠ "java/lang/invoke/MethodHandle" ∧ yX10_requireSlot.cls ≠ "java/lang/invoke/VarHandle" ∧ (parseMethodDescriptor yX10_requireSlot.desc).map (fun d => d.parameters.length) = some 1 := by decide +kernel
set_option maxRecDepth 20000 in
set_option maxHeartbeats 4000000 in
theorem k_X10_requireSlot (l : Launch) (hl : l.stackTraces = false) (D : va_G) (cI cJ cZ cO : ClassId) (z : Nat → Nat)  (h_t_ : Nat) (h_show : Nat) (h_show_slots : Nat) (h_history : Nat) (h_reader : Nat) (h_division : Nat) (h_placement : Nat) (h_titles : Nat) (h_page : Nat) (h_show_transcript : Nat) (h_show_kept : Nat) (h_show_settings : Nat) (h_show_slots_wishes : Nat) (h_show_slots_lengths : Nat) (h_show_slots_reaches : Nat) (x1 : Int32) (v_stale : Int32) (v_show_slots_slotCount : Int32) (r_ : (Nat ⊕ Unit)) (hF : F_X10_requireSlot x1 v_show_slots_slotCount = some r_) : Xv l yX10_requireSlot wsX10_requireSlot (rmX 6 1) D (gq_ty cI cJ cZ cO) z [.ref h_t_, .int x1] [(h_t_, .inr (10, [.ref h_show, .ref h_history, .ref h_reader, .ref h_division, .ref h_placement, .ref h_titles, .ref h_page, .int v_stale])), (h_show, .inr (6, [.ref h_show_transcript, .ref h_show_slots, .ref h_show_kept, .ref h_show_settings])), (h_show_slots, .inr (7, [.int v_show_slots_slotCount, .ref h_show_slots_wishes, .ref h_show_slots_lengths, .ref h_show_slots_reaches]))] r_ [(h_t_, .inr (10, [.ref h_show, .ref h_history, .ref h_reader, .ref h_division, .ref h_placement, .ref h_titles, .ref h_page, .int v_stale])), (h_show, .inr (6, [.ref h_show_transcript, .ref h_show_slots, .ref h_show_kept, .ref h_show_settings])), (h_show_slots, .inr (7, [.int v_show_slots_slotCount, .ref h_show_slots_wishes, .ref h_show_slots_lengths, .ref h_show_slots_reaches]))] 1 6 := by
  refine Xv.of (cc := cX10_requireSlot) (maxL := 2) (by decide) rfl (Nat.le_of_ble_eq_true rfl) ?_
  intro p e s m args below meth c A hC hex
  have hin_X10 : ∀ w ∈ wsX100, w ∈ wsX10_requireSlot := fun w h => List.mem_cons_of_mem _ (List.mem_append_left _ (List.mem_append_left _ (List.mem_append_left _ (List.mem_append_right _ h))))
  have hin_X6 : ∀ w ∈ wsX60, w ∈ wsX10_requireSlot := fun w h => List.mem_cons_of_mem _ (List.mem_append_left _ (List.mem_append_left _ (List.mem_append_right _ h)))
  have hin_X7 : ∀ w ∈ wsX70, w ∈ wsX10_requireSlot := fun w h => List.mem_cons_of_mem _ (List.mem_append_left _ (List.mem_append_right _ h))
  have hw_12 : Cond.fieldLink RX10 12 (TX10 0).1 (TX10 0).2.1 (TX10 0).2.2.1 ∈ wsX10_requireSlot := (List.mem_of_getElem? (i := 3) rfl)
  have hw_117 : Cond.fieldLink RX10 117 (TX6 1).1 (TX6 1).2.1 (TX6 1).2.2.1 ∈ wsX10_requireSlot := (List.mem_of_getElem? (i := 4) rfl)
  have hw_121 : Cond.fieldLink RX10 121 (TX7 0).1 (TX7 0).2.1 (TX7 0).2.2.1 ∈ wsX10_requireSlot := (List.mem_of_getElem? (i := 5) rfl)
  obtain ⟨Q, hQ⟩ : ∃ Q, Q = gq_Xv below D A args s r_ [(h_t_, .inr (10, [.ref h_show, .ref h_history, .ref h_reader, .ref h_division, .ref h_placement, .ref h_titles, .ref h_page, .int v_stale])), (h_show, .inr (6, [.ref h_show_transcript, .ref h_show_slots, .ref h_show_kept, .ref h_show_settings])), (h_show_slots, .inr (7, [.int v_show_slots_slotCount, .ref h_show_slots_wishes, .ref h_show_slots_lengths, .ref h_show_slots_reaches]))] 1 6 := ⟨_, rfl⟩
  rw [← hQ]
  refine gq_loc [(0, .ref h_t_), (1, .int x1)] rfl ?_
  have jb18 : F_X10_requireSlot_b18  = some r_ → Gx p l e (rmX 6 1) s m args below meth c D A 2 Q 0 0 18 [] [] [(h_t_, .inr (10, [.ref h_show, .ref h_history, .ref h_reader, .ref h_division, .ref h_placement, .ref h_titles, .ref h_page, .int v_stale])), (h_show, .inr (6, [.ref h_show_transcript, .ref h_show_slots, .ref h_show_kept, .ref h_show_settings])), (h_show_slots, .inr (7, [.int v_show_slots_slotCount, .ref h_show_slots_wishes, .ref h_show_slots_lengths, .ref h_show_slots_reaches]))] := by
    intro  hF
    unfold F_X10_requireSlot_b18 at hF
    cases hF
    rw [hQ]
    exact gq_throwSW (code := 3) (text := "there is no such slot") hC hex hl (by decide +kernel) ⟨(List.mem_of_getElem? (i := 1) rfl), (List.mem_of_getElem? (i := 2) rfl)⟩ ⟨by decide +kernel, by decide +kernel⟩ (by decide +kernel) hat_3 dX10_requireSlot_18 dX10_requireSlot_21 dX10_requireSlot_22 dX10_requireSlot_25 dX10_requireSlot_28 ⟨Nat.le_of_ble_eq_true rfl, Nat.le_of_ble_eq_true rfl, Nat.le_of_ble_eq_true rfl, Nat.le_of_ble_eq_true rfl⟩ rfl (Nat.le_of_ble_eq_true rfl) (Nat.le_of_ble_eq_true rfl)
  unfold F_X10_requireSlot at hF
  refine gq_iload_n hC 1 dX10_requireSlot_0 rfl rfl ?_
  refine gq_if_lt hC 18 dX10_requireSlot_1 (by decide) (fun hc_2 => ?_) (fun hc_2 => ?_)
  · have hF := (if_pos hc_2).symm.trans hF
    refine gq_sub [] [] rfl ?_
    exact jb18  hF
  · have hF := (if_neg hc_2).symm.trans hF
    refine gq_iload_n hC 1 dX10_requireSlot_4 rfl rfl ?_
    refine gq_aload_n hC 0 dX10_requireSlot_5 rfl rfl ?_
    refine gq_get hC (kf := 0) 0 hin_X10 rfl rfl (by decide) hw_12 rfl dX10_requireSlot_6 ?_
    refine gq_get hC (kf := 1) 1 hin_X6 rfl rfl (by decide) hw_117 rfl dX10_requireSlot_9 ?_
    refine gq_get hC (kf := 0) 2 hin_X7 rfl rfl (by decide) hw_121 rfl dX10_requireSlot_12 ?_
    refine gq_icmp_lt hC 29 dX10_requireSlot_15 (by decide) (fun hc_1 => ?_) (fun hc_1 => ?_)
    · have hF := (if_pos hc_1).symm.trans hF
      cases hF
      rw [hQ]
      exact gq_xvret hC (Nat.le_of_ble_eq_true rfl) (Nat.le_of_ble_eq_true rfl) dX10_requireSlot_29
    · have hF := (if_neg hc_1).symm.trans hF
      refine gq_sub [] [] rfl ?_
      exact jb18  hF
theorem hy_X10_slot : yX10_slot.cls = RX10 ∧ yX10_slot.cls ≠ "java/lang/invoke/MethodHandle" ∧ yX10_slot.cls ≠ "java/lang/invoke/VarHandle" ∧ (parseMethodDescriptor yX10_slot.desc).map (fun d => d.parameters.length) = some 2 := by decide +kernel
set_option maxRecDepth 20000 in
set_option maxHeartbeats 4000000 in
theorem k_X10_slot (l : Launch) (hl : l.stackTraces = false) (D : va_G) (cI cJ cZ cO : ClassId) (z : Nat → Nat)  (h_t_ : Nat) (h_show : Nat) (h_show_slots : Nat) (h_show_slots_wishes : Nat) (h_show_slots_lengths : Nat) (h_show_slots_reaches : Nat) (h_history : Nat) (h_reader : Nat) (h_division : Nat) (h_placement : Nat) (h_titles : Nat) (h_page : Nat) (h_show_transcript : Nat) (h_show_kept : Nat) (h_show_settings : Nat) (x1 : Int32) (x2 : Int32) (v_stale : Int32) (v_show_slots_slotCount : Int32) (v_show_slots_wishes : Nat → Int32) (v_show_slots_lengths : Nat → Int32) (v_show_slots_reaches : Nat → Int32) (r_ : (Nat ⊕ Int32)) (hF : F_X10_slot x1 x2 v_show_slots_slotCount v_show_slots_wishes v_show_slots_lengths v_show_slots_reaches = some r_) : Xi l yX10_slot wsX10_slot (rmX 7 2) D (gq_ty cI cJ cZ cO) z [.ref h_t_, .int x1, .int x2] [(h_t_, .inr (10, [.ref h_show, .ref h_history, .ref h_reader, .ref h_division, .ref h_placement, .ref h_titles, .ref h_page, .int v_stale])), (h_show, .inr (6, [.ref h_show_transcript, .ref h_show_slots, .ref h_show_kept, .ref h_show_settings])), (h_show_slots, .inr (7, [.int v_show_slots_slotCount, .ref h_show_slots_wishes, .ref h_show_slots_lengths, .ref h_show_slots_reaches])), (h_show_slots_wishes, .inl (cI, 5, .inl v_show_slots_wishes)), (h_show_slots_lengths, .inl (cI, 5, .inl v_show_slots_lengths)), (h_show_slots_reaches, .inl (cI, 5, .inl v_show_slots_reaches))] r_ [(h_t_, .inr (10, [.ref h_show, .ref h_history, .ref h_reader, .ref h_division, .ref h_placement, .ref h_titles, .ref h_page, .int v_stale])), (h_show, .inr (6, [.ref h_show_transcript, .ref h_show_slots, .ref h_show_kept, .ref h_show_settings])), (h_show_slots, .inr (7, [.int v_show_slots_slotCount, .ref h_show_slots_wishes, .ref h_show_slots_lengths, .ref h_show_slots_reaches])), (h_show_slots_wishes, .inl (cI, 5, .inl v_show_slots_wishes)), (h_show_slots_lengths, .inl (cI, 5, .inl v_show_slots_lengths)), (h_show_slots_reaches, .inl (cI, 5, .inl v_show_slots_reaches))] 2 12 := by
  refine Xi.of (cc := cX10_slot) (maxL := 3) (by decide) rfl (Nat.le_of_ble_eq_true rfl) ?_
  intro p e s m args below meth c A hC hex
  have hin_X10 : ∀ w ∈ wsX100, w ∈ wsX10_slot := fun w h => List.mem_cons_of_mem _ (List.mem_append_left _ (List.mem_append_left _ (List.mem_append_left _ (List.mem_append_left _ (List.mem_append_right _ h)))))
  have hin_X6 : ∀ w ∈ wsX60, w ∈ wsX10_slot := fun w h => List.mem_cons_of_mem _ (List.mem_append_left _ (List.mem_append_left _ (List.mem_append_left _ (List.mem_append_right _ h))))
  have hin_X7 : ∀ w ∈ wsX70, w ∈ wsX10_slot := fun w h => List.mem_cons_of_mem _ (List.mem_append_left _ (List.mem_append_left _ (List.mem_append_right _ h)))
  have hw_12 : Cond.fieldLink RX10 12 (TX10 0).1 (TX10 0).2.1 (TX10 0).2.2.1 ∈ wsX10_slot := (List.mem_of_getElem? (i := 3) rfl)
  have hw_117 : Cond.fieldLink RX10 117 (TX6 1).1 (TX6 1).2.1 (TX6 1).2.2.1 ∈ wsX10_slot := (List.mem_of_getElem? (i := 4) rfl)
  have hw_316 : Cond.fieldLink RX10 316 (TX7 2).1 (TX7 2).2.1 (TX7 2).2.2.1 ∈ wsX10_slot := (List.mem_of_getElem? (i := 6) rfl)
  have hw_319 : Cond.fieldLink RX10 319 (TX7 3).1 (TX7 3).2.1 (TX7 3).2.2.1 ∈ wsX10_slot := (List.mem_of_getElem? (i := 7) rfl)
  have hw_322 : Cond.fieldLink RX10 322 (TX7 1).1 (TX7 1).2.1 (TX7 1).2.2.1 ∈ wsX10_slot := (List.mem_of_getElem? (i := 5) rfl)
  obtain ⟨Q, hQ⟩ : ∃ Q, Q = gq_Xi below D A args s r_ [(h_t_, .inr (10, [.ref h_show, .ref h_history, .ref h_reader, .ref h_division, .ref h_placement, .ref h_titles, .ref h_page, .int v_stale])), (h_show, .inr (6, [.ref h_show_transcript, .ref h_show_slots, .ref h_show_kept, .ref h_show_settings])), (h_show_slots, .inr (7, [.int v_show_slots_slotCount, .ref h_show_slots_wishes, .ref h_show_slots_lengths, .ref h_show_slots_reaches])), (h_show_slots_wishes, .inl (cI, 5, .inl v_show_slots_wishes)), (h_show_slots_lengths, .inl (cI, 5, .inl v_show_slots_lengths)), (h_show_slots_reaches, .inl (cI, 5, .inl v_show_slots_reaches))] 2 12 := ⟨_, rfl⟩
  rw [← hQ]
  refine gq_loc [(0, .ref h_t_), (1, .int x1), (2, .int x2)] rfl ?_
  unfold F_X10_slot at hF
  refine gq_aload_n hC 0 dX10_slot_0 rfl rfl ?_
  refine gq_iload_n hC 1 dX10_slot_1 rfl rfl ?_
  obtain ⟨x_1, hc_, hF⟩ := ob1_e hF
  rcases x_1 with c_2 | r_3
  · have hF := xo_l hF
    have hF := Option.some.inj hF
    subst hF
    rw [hQ]
    exact gq_xxVv (mc := 2) (ms := 12) hC [0, 1, 2] [(h_t_, .inr (10, [.ref h_show, .ref h_history, .ref h_reader, .ref h_division, .ref h_placement, .ref h_titles, .ref h_page, .int v_stale])), (h_show, .inr (6, [.ref h_show_transcript, .ref h_show_slots, .ref h_show_kept, .ref h_show_settings])), (h_show_slots, .inr (7, [.int v_show_slots_slotCount, .ref h_show_slots_wishes, .ref h_show_slots_lengths, .ref h_show_slots_reaches])), (h_show_slots_wishes, .inl (cI, 5, .inl v_show_slots_wishes)), (h_show_slots_lengths, .inl (cI, 5, .inl v_show_slots_lengths)), (h_show_slots_reaches, .inl (cI, 5, .inl v_show_slots_reaches))] [.int x1] [] (k_X10_requireSlot l hl D cI cJ cZ cO z h_t_ h_show h_show_slots h_history h_reader h_division h_placement h_titles h_page h_show_transcript h_show_kept h_show_settings h_show_slots_wishes h_show_slots_lengths h_show_slots_reaches x1 v_stale v_show_slots_slotCount (.inl c_2) hc_) gX10_slot_X10_requireSlot rfl ⟨rfl, rfl⟩ hy_X10_requireSlot ⟨Nat.le_of_ble_eq_true rfl, Nat.le_of_ble_eq_true rfl⟩ ⟨Nat.le_of_ble_eq_true rfl, Nat.le_of_ble_eq_true rfl⟩ rfl rfl rfl (q0 := 0) rfl rfl rfl (Nat.le_of_ble_eq_true rfl) rfl dX10_slot_2 rfl rfl hex rfl ⟨Nat.le_of_ble_eq_true rfl, Nat.le_of_ble_eq_true rfl⟩
  · have hF := xo_r hF
    refine gq_xrVv hC [0, 1, 2] [(h_t_, .inr (10, [.ref h_show, .ref h_history, .ref h_reader, .ref h_division, .ref h_placement, .ref h_titles, .ref h_page, .int v_stale])), (h_show, .inr (6, [.ref h_show_transcript, .ref h_show_slots, .ref h_show_kept, .ref h_show_settings])), (h_show_slots, .inr (7, [.int v_show_slots_slotCount, .ref h_show_slots_wishes, .ref h_show_slots_lengths, .ref h_show_slots_reaches])), (h_show_slots_wishes, .inl (cI, 5, .inl v_show_slots_wishes)), (h_show_slots_lengths, .inl (cI, 5, .inl v_show_slots_lengths)), (h_show_slots_reaches, .inl (cI, 5, .inl v_show_slots_reaches))] [.int x1] [] (k_X10_requireSlot l hl D cI cJ cZ cO z h_t_ h_show h_show_slots h_history h_reader h_division h_placement h_titles h_page h_show_transcript h_show_kept h_show_settings h_show_slots_wishes h_show_slots_lengths h_show_slots_reaches x1 v_stale v_show_slots_slotCount (.inr r_3) hc_) gX10_slot_X10_requireSlot rfl ⟨rfl, rfl⟩ hy_X10_requireSlot ⟨Nat.le_of_ble_eq_true rfl, Nat.le_of_ble_eq_true rfl⟩ ⟨Nat.le_of_ble_eq_true rfl, Nat.le_of_ble_eq_true rfl⟩ rfl rfl rfl (q0 := 0) rfl rfl rfl (Nat.le_of_ble_eq_true rfl) rfl dX10_slot_2 rfl rfl ?_
    have hC := gq_at hC (k' := 1) (n' := 6) ⟨Nat.le_of_ble_eq_true rfl, Nat.le_of_ble_eq_true rfl⟩
    refine gq_iload_n hC 2 dX10_slot_5 rfl rfl ?_
    by_cases hn_4 : x2 = 0
    · have hF := (if_pos hn_4).symm.trans hF
      refine gq_tblIn hC (off := 26) (v := 0) 32 dX10_slot_6 hn_4 (by decide) (by decide) (by decide) (by decide) ?_
      refine gq_aload_n hC 0 dX10_slot_32 rfl rfl ?_
      refine gq_get hC (kf := 0) 0 hin_X10 rfl rfl (by decide) hw_12 rfl dX10_slot_33 ?_
      refine gq_get hC (kf := 1) 1 hin_X6 rfl rfl (by decide) hw_117 rfl dX10_slot_36 ?_
      refine gq_get hC (kf := 1) 2 hin_X7 rfl rfl (by decide) hw_322 rfl dX10_slot_39 ?_
      refine gq_iload_n hC 1 dX10_slot_42 rfl rfl ?_
      obtain ⟨hi_9, hF⟩ := gi_e hF
      refine gq_iald hC 3 0 rfl rfl hi_9 dX10_slot_43 ?_
      cases hF
      rw [hQ]
      exact gq_xiret hC (Nat.le_of_ble_eq_true rfl) (Nat.le_of_ble_eq_true rfl) rfl dX10_slot_44
    · have hF := (if_neg hn_4).symm.trans hF
      by_cases hn_5 : x2 = 1
      · have hF := (if_pos hn_5).symm.trans hF
        refine gq_tblIn hC (off := 39) (v := 1) 45 dX10_slot_6 hn_5 (by decide) (by decide) (by decide) (by decide) ?_
        refine gq_aload_n hC 0 dX10_slot_45 rfl rfl ?_
        refine gq_get hC (kf := 0) 0 hin_X10 rfl rfl (by decide) hw_12 rfl dX10_slot_46 ?_
        refine gq_get hC (kf := 1) 1 hin_X6 rfl rfl (by decide) hw_117 rfl dX10_slot_49 ?_
        refine gq_get hC (kf := 2) 2 hin_X7 rfl rfl (by decide) hw_316 rfl dX10_slot_52 ?_
        refine gq_iload_n hC 1 dX10_slot_55 rfl rfl ?_
        obtain ⟨hi_8, hF⟩ := gi_e hF
        refine gq_iald hC 4 0 rfl rfl hi_8 dX10_slot_56 ?_
        cases hF
        rw [hQ]
        exact gq_xiret hC (Nat.le_of_ble_eq_true rfl) (Nat.le_of_ble_eq_true rfl) rfl dX10_slot_57
      · have hF := (if_neg hn_5).symm.trans hF
        by_cases hn_6 : x2 = 2
        · have hF := (if_pos hn_6).symm.trans hF
          refine gq_tblIn hC (off := 52) (v := 2) 58 dX10_slot_6 hn_6 (by decide) (by decide) (by decide) (by decide) ?_
          refine gq_aload_n hC 0 dX10_slot_58 rfl rfl ?_
          refine gq_get hC (kf := 0) 0 hin_X10 rfl rfl (by decide) hw_12 rfl dX10_slot_59 ?_
          refine gq_get hC (kf := 1) 1 hin_X6 rfl rfl (by decide) hw_117 rfl dX10_slot_62 ?_
          refine gq_get hC (kf := 3) 2 hin_X7 rfl rfl (by decide) hw_319 rfl dX10_slot_65 ?_
          refine gq_iload_n hC 1 dX10_slot_68 rfl rfl ?_
          obtain ⟨hi_7, hF⟩ := gi_e hF
          refine gq_iald hC 5 0 rfl rfl hi_7 dX10_slot_69 ?_
          cases hF
          rw [hQ]
          exact gq_xiret hC (Nat.le_of_ble_eq_true rfl) (Nat.le_of_ble_eq_true rfl) rfl dX10_slot_70
        · have hF := (if_neg hn_6).symm.trans hF
          refine gq_tblOut hC 71 dX10_slot_6 (by have h9 : ∀ z : Int32, z.toInt = z.toInt := fun _ => rfl; have := lv_neT hn_4 (show (0 : Int32).toInt = 0 from by decide); have := lv_neT hn_5 (show (1 : Int32).toInt = 1 from by decide); have := lv_neT hn_6 (show (2 : Int32).toInt = 2 from by decide); omega) (by decide) ?_
          cases hF
          rw [hQ]
          exact gq_throwSW (code := 2) (text := "there is no such number of a slot") hC hex hl (by decide +kernel) ⟨(List.mem_of_getElem? (i := 1) rfl), (List.mem_of_getElem? (i := 2) rfl)⟩ ⟨by decide +kernel, by decide +kernel⟩ (by decide +kernel) hat_2 dX10_slot_71 dX10_slot_74 dX10_slot_75 dX10_slot_78 dX10_slot_81 ⟨Nat.le_of_ble_eq_true rfl, Nat.le_of_ble_eq_true rfl, Nat.le_of_ble_eq_true rfl, Nat.le_of_ble_eq_true rfl⟩ rfl (Nat.le_of_ble_eq_true rfl) (Nat.le_of_ble_eq_true rfl)
theorem hy_X10_requireRange : yX10_requireRange.cls = RX10 ∧ yX10_requireRange.cls ≠ "java/lang/invoke/MethodHandle" ∧ yX10_requireRange.cls ≠ "java/lang/invoke/VarHandle" ∧ (parseMethodDescriptor yX10_requireRange.desc).map (fun d => d.parameters.length) = some 3 := by decide +kernel
set_option maxRecDepth 20000 in
set_option maxHeartbeats 4000000 in
theorem k_X10_requireRange (l : Launch) (hl : l.stackTraces = false) (D : va_G) (cI cJ cZ cO : ClassId) (z : Nat → Nat)  (h_t_ : Nat) (h_show : Nat) (h_history : Nat) (h_reader : Nat) (h_division : Nat) (h_placement : Nat) (h_titles : Nat) (h_page : Nat) (x1 : Int32) (x2 : Int32) (x3 : Int32) (v_stale : Int32) (r_ : (Nat ⊕ Unit)) (hF : F_X10_requireRange x1 x2 x3 = some r_) : Xv l yX10_requireRange wsX10_requireRange (rmX 6 1) D (gq_ty cI cJ cZ cO) z [.ref h_t_, .int x1, .int x2, .int x3] [(h_t_, .inr (10, [.ref h_show, .ref h_history, .ref h_reader, .ref h_division, .ref h_placement, .ref h_titles, .ref h_page, .int v_stale]))] r_ [(h_t_, .inr (10, [.ref h_show, .ref h_history, .ref h_reader, .ref h_division, .ref h_placement, .ref h_titles, .ref h_page, .int v_stale]))] 1 6 := by
  refine Xv.of (cc := cX10_requireRange) (maxL := 4) (by decide) rfl (Nat.le_of_ble_eq_true rfl) ?_
  intro p e s m args below meth c A hC hex
  obtain ⟨Q, hQ⟩ : ∃ Q, Q = gq_Xv below D A args s r_ [(h_t_, .inr (10, [.ref h_show, .ref h_history, .ref h_reader, .ref h_division, .ref h_placement, .ref h_titles, .ref h_page, .int v_stale]))] 1 6 := ⟨_, rfl⟩
  rw [← hQ]
  refine gq_loc [(0, .ref h_t_), (1, .int x1), (2, .int x2), (3, .int x3)] rfl ?_
  have jb10 : F_X10_requireRange_b10  = some r_ → Gx p l e (rmX 6 1) s m args below meth c D A 4 Q 0 0 10 [] [] [(h_t_, .inr (10, [.ref h_show, .ref h_history, .ref h_reader, .ref h_division, .ref h_placement, .ref h_titles, .ref h_page, .int v_stale]))] := by
    intro  hF
    unfold F_X10_requireRange_b10 at hF
    cases hF
    rw [hQ]
    exact gq_throwSW (code := 2) (text := "a number is out of its range") hC hex hl (by decide +kernel) ⟨(List.mem_of_getElem? (i := 1) rfl), (List.mem_of_getElem? (i := 2) rfl)⟩ ⟨by decide +kernel, by decide +kernel⟩ (by decide +kernel) hat_2 dX10_requireRange_10 dX10_requireRange_13 dX10_requireRange_14 dX10_requireRange_17 dX10_requireRange_20 ⟨Nat.le_of_ble_eq_true rfl, Nat.le_of_ble_eq_true rfl, Nat.le_of_ble_eq_true rfl, Nat.le_of_ble_eq_true rfl⟩ rfl (Nat.le_of_ble_eq_true rfl) (Nat.le_of_ble_eq_true rfl)
  unfold F_X10_requireRange at hF
  refine gq_iload_n hC 1 dX10_requireRange_0 rfl rfl ?_
  refine gq_iload_n hC 2 dX10_requireRange_1 rfl rfl ?_
  refine gq_icmp_lt hC 10 dX10_requireRange_2 (by decide) (fun hc_2 => ?_) (fun hc_2 => ?_)
  · have hF := (if_pos hc_2).symm.trans hF
    refine gq_sub [] [] rfl ?_
    exact jb10  hF
  · have hF := (if_neg hc_2).symm.trans hF
    refine gq_iload_n hC 1 dX10_requireRange_5 rfl rfl ?_
    refine gq_iload_n hC 3 dX10_requireRange_6 rfl rfl ?_
    refine gq_icmp_le hC 21 dX10_requireRange_7 (by decide) (fun hc_1 => ?_) (fun hc_1 => ?_)
    · have hF := (if_pos hc_1).symm.trans hF
      cases hF
      rw [hQ]
      exact gq_xvret hC (Nat.le_of_ble_eq_true rfl) (Nat.le_of_ble_eq_true rfl) dX10_requireRange_21
    · have hF := (if_neg hc_1).symm.trans hF
      refine gq_sub [] [] rfl ?_
      exact jb10  hF
theorem hy_X10_carried : yX10_carried.cls = RX10 ∧ yX10_carried.cls ≠ "java/lang/invoke/MethodHandle" ∧ yX10_carried.cls ≠ "java/lang/invoke/VarHandle" ∧ (parseMethodDescriptor yX10_carried.desc).map (fun d => d.parameters.length) = some 1 := by decide +kernel
set_option maxRecDepth 20000 in
set_option maxHeartbeats 4000000 in
theorem k_X10_carried (l : Launch) (hl : l.stackTraces = false) (D : va_G) (cI cJ cZ cO : ClassId) (z : Nat → Nat)  (h_t_ : Nat) (h_show : Nat) (h_show_transcript : Nat) (h_show_transcript_order : Nat) (h_show_transcript_durations : Nat) (h_show_kept : Nat) (h_show_kept_rows : Nat) (h_show_kept_starts : Nat) (h_show_kept_durations : Nat) (h_history : Nat) (h_reader : Nat) (h_division : Nat) (h_placement : Nat) (h_titles : Nat) (h_page : Nat) (h_show_slots : Nat) (h_show_settings : Nat) (h_show_transcript_pauses : Nat) (h_show_transcript_sizes : Nat) (h_show_transcript_words : Nat) (h_show_transcript_names : Nat) (x1 : Int32) (v_stale : Int32) (v_show_transcript_segmentCount : Int32) (v_show_transcript_wordCount : Int32) (v_show_transcript_order : Nat → Int32) (v_show_transcript_durations : Nat → Int32) (v_show_kept_exists : Int32) (v_show_kept_segmentCount : Int32) (v_show_kept_total : Int32) (v_show_kept_rows : Nat → Int32) (v_show_kept_starts : Nat → Int32) (v_show_kept_durations : Nat → Int32) (r_ : (Nat ⊕ Int32)) (hF : F_X10_carried x1 v_show_transcript_segmentCount v_show_transcript_order v_show_transcript_durations v_show_kept_exists v_show_kept_segmentCount v_show_kept_total v_show_kept_rows v_show_kept_starts v_show_kept_durations = some r_) : Xi l yX10_carried wsX10_carried (rmX 7 1) D (gq_ty cI cJ cZ cO) z [.ref h_t_, .int x1] [(h_t_, .inr (10, [.ref h_show, .ref h_history, .ref h_reader, .ref h_division, .ref h_placement, .ref h_titles, .ref h_page, .int v_stale])), (h_show, .inr (6, [.ref h_show_transcript, .ref h_show_slots, .ref h_show_kept, .ref h_show_settings])), (h_show_transcript, .inr (9, [.int v_show_transcript_segmentCount, .int v_show_transcript_wordCount, .ref h_show_transcript_order, .ref h_show_transcript_durations, .ref h_show_transcript_pauses, .ref h_show_transcript_sizes, .ref h_show_transcript_words, .ref h_show_transcript_names])), (h_show_transcript_order, .inl (cI, 32, .inl v_show_transcript_order)), (h_show_transcript_durations, .inl (cI, 32, .inl v_show_transcript_durations)), (h_show_kept, .inr (2, [.int v_show_kept_exists, .int v_show_kept_segmentCount, .int v_show_kept_total, .ref h_show_kept_rows, .ref h_show_kept_starts, .ref h_show_kept_durations])), (h_show_kept_rows, .inl (cI, 32, .inl v_show_kept_rows)), (h_show_kept_starts, .inl (cI, 32, .inl v_show_kept_starts)), (h_show_kept_durations, .inl (cI, 32, .inl v_show_kept_durations))] r_ [(h_t_, .inr (10, [.ref h_show, .ref h_history, .ref h_reader, .ref h_division, .ref h_placement, .ref h_titles, .ref h_page, .int v_stale])), (h_show, .inr (6, [.ref h_show_transcript, .ref h_show_slots, .ref h_show_kept, .ref h_show_settings])), (h_show_transcript, .inr (9, [.int v_show_transcript_segmentCount, .int v_show_transcript_wordCount, .ref h_show_transcript_order, .ref h_show_transcript_durations, .ref h_show_transcript_pauses, .ref h_show_transcript_sizes, .ref h_show_transcript_words, .ref h_show_transcript_names])), (h_show_transcript_order, .inl (cI, 32, .inl v_show_transcript_order)), (h_show_transcript_durations, .inl (cI, 32, .inl v_show_transcript_durations)), (h_show_kept, .inr (2, [.int v_show_kept_exists, .int v_show_kept_segmentCount, .int v_show_kept_total, .ref h_show_kept_rows, .ref h_show_kept_starts, .ref h_show_kept_durations])), (h_show_kept_rows, .inl (cI, 32, .inl v_show_kept_rows)), (h_show_kept_starts, .inl (cI, 32, .inl v_show_kept_starts)), (h_show_kept_durations, .inl (cI, 32, .inl v_show_kept_durations))] 1 6 := by
  refine Xi.of (cc := cX10_carried) (maxL := 2) (by decide) rfl (Nat.le_of_ble_eq_true rfl) ?_
  intro p e s m args below meth c A hC hex
  have hin_X10 : ∀ w ∈ wsX100, w ∈ wsX10_carried := fun w h => List.mem_cons_of_mem _ (List.mem_append_left _ (List.mem_append_left _ (List.mem_append_left _ (List.mem_append_left _ (List.mem_append_left _ (List.mem_append_right _ h))))))
  have hin_X2 : ∀ w ∈ wsX20, w ∈ wsX10_carried := fun w h => List.mem_cons_of_mem _ (List.mem_append_left _ (List.mem_append_left _ (List.mem_append_left _ (List.mem_append_right _ h))))
  have hin_X6 : ∀ w ∈ wsX60, w ∈ wsX10_carried := fun w h => List.mem_cons_of_mem _ (List.mem_append_left _ (List.mem_append_left _ (List.mem_append_left _ (List.mem_append_left _ (List.mem_append_right _ h)))))
  have hw_12 : Cond.fieldLink RX10 12 (TX10 0).1 (TX10 0).2.1 (TX10 0).2.2.1 ∈ wsX10_carried := (List.mem_of_getElem? (i := 3) rfl)
  have hw_102 : Cond.fieldLink RX10 102 (TX6 0).1 (TX6 0).2.1 (TX6 0).2.2.1 ∈ wsX10_carried := (List.mem_of_getElem? (i := 7) rfl)
  have hw_336 : Cond.fieldLink RX10 336 (TX6 2).1 (TX6 2).2.1 (TX6 2).2.2.1 ∈ wsX10_carried := (List.mem_of_getElem? (i := 4) rfl)
  have hw_346 : Cond.fieldLink RX10 346 (TX2 2).1 (TX2 2).2.1 (TX2 2).2.2.1 ∈ wsX10_carried := (List.mem_of_getElem? (i := 6) rfl)
  have hw_349 : Cond.fieldLink RX10 349 (TX2 0).1 (TX2 0).2.1 (TX2 0).2.2.1 ∈ wsX10_carried := (List.mem_of_getElem? (i := 5) rfl)
  obtain ⟨Q, hQ⟩ : ∃ Q, Q = gq_Xi below D A args s r_ [(h_t_, .inr (10, [.ref h_show, .ref h_history, .ref h_reader, .ref h_division, .ref h_placement, .ref h_titles, .ref h_page, .int v_stale])), (h_show, .inr (6, [.ref h_show_transcript, .ref h_show_slots, .ref h_show_kept, .ref h_show_settings])), (h_show_transcript, .inr (9, [.int v_show_transcript_segmentCount, .int v_show_transcript_wordCount, .ref h_show_transcript_order, .ref h_show_transcript_durations, .ref h_show_transcript_pauses, .ref h_show_transcript_sizes, .ref h_show_transcript_words, .ref h_show_transcript_names])), (h_show_transcript_order, .inl (cI, 32, .inl v_show_transcript_order)), (h_show_transcript_durations, .inl (cI, 32, .inl v_show_transcript_durations)), (h_show_kept, .inr (2, [.int v_show_kept_exists, .int v_show_kept_segmentCount, .int v_show_kept_total, .ref h_show_kept_rows, .ref h_show_kept_starts, .ref h_show_kept_durations])), (h_show_kept_rows, .inl (cI, 32, .inl v_show_kept_rows)), (h_show_kept_starts, .inl (cI, 32, .inl v_show_kept_starts)), (h_show_kept_durations, .inl (cI, 32, .inl v_show_kept_durations))] 1 6 := ⟨_, rfl⟩
  rw [← hQ]
  refine gq_loc [(0, .ref h_t_), (1, .int x1)] rfl ?_
  unfold F_X10_carried at hF
  refine gq_aload_n hC 0 dX10_carried_0 rfl rfl ?_
  refine gq_get hC (kf := 0) 0 hin_X10 rfl rfl (by decide) hw_12 rfl dX10_carried_1 ?_
  refine gq_get hC (kf := 2) 1 hin_X6 rfl rfl (by decide) hw_336 rfl dX10_carried_4 ?_
  refine gq_get hC (kf := 0) 5 hin_X2 rfl rfl (by decide) hw_349 rfl dX10_carried_7 ?_
  refine gq_if_ne hC 24 dX10_carried_10 (by decide) (fun hc_5 => ?_) (fun hc_5 => ?_)
  · have hF := (if_neg hc_5).symm.trans hF
    refine gq_aload_n hC 0 dX10_carried_24 rfl rfl ?_
    refine gq_iload_n hC 1 dX10_carried_25 rfl rfl ?_
    refine gq_iconst hC (0 : Int32) dX10_carried_26 (by decide) ?_
    refine gq_aload_n hC 0 dX10_carried_27 rfl rfl ?_
    refine gq_get hC (kf := 0) 0 hin_X10 rfl rfl (by decide) hw_12 rfl dX10_carried_28 ?_
    refine gq_get hC (kf := 2) 1 hin_X6 rfl rfl (by decide) hw_336 rfl dX10_carried_31 ?_
    refine gq_get hC (kf := 2) 5 hin_X2 rfl rfl (by decide) hw_346 rfl dX10_carried_34 ?_
    refine gq_iconst hC (1 : Int32) dX10_carried_37 (by decide) ?_
    refine gq_isub hC dX10_carried_38 ?_
    obtain ⟨x_1, hc_, hF⟩ := ob1_e hF
    rcases x_1 with c_2 | r_3
    · have hF := xo_l hF
      have hF := Option.some.inj hF
      subst hF
      rw [hQ]
      exact gq_xxVv (mc := 1) (ms := 6) hC [0] [(h_t_, .inr (10, [.ref h_show, .ref h_history, .ref h_reader, .ref h_division, .ref h_placement, .ref h_titles, .ref h_page, .int v_stale])), (h_show, .inr (6, [.ref h_show_transcript, .ref h_show_slots, .ref h_show_kept, .ref h_show_settings])), (h_show_transcript, .inr (9, [.int v_show_transcript_segmentCount, .int v_show_transcript_wordCount, .ref h_show_transcript_order, .ref h_show_transcript_durations, .ref h_show_transcript_pauses, .ref h_show_transcript_sizes, .ref h_show_transcript_words, .ref h_show_transcript_names])), (h_show_transcript_order, .inl (cI, 32, .inl v_show_transcript_order)), (h_show_transcript_durations, .inl (cI, 32, .inl v_show_transcript_durations)), (h_show_kept, .inr (2, [.int v_show_kept_exists, .int v_show_kept_segmentCount, .int v_show_kept_total, .ref h_show_kept_rows, .ref h_show_kept_starts, .ref h_show_kept_durations])), (h_show_kept_rows, .inl (cI, 32, .inl v_show_kept_rows)), (h_show_kept_starts, .inl (cI, 32, .inl v_show_kept_starts)), (h_show_kept_durations, .inl (cI, 32, .inl v_show_kept_durations))] [.int x1, .int (0 : Int32), .int (v_show_kept_total - (1 : Int32))] [] (k_X10_requireRange l hl D cI cJ cZ cO z h_t_ h_show h_history h_reader h_division h_placement h_titles h_page x1 (0 : Int32) (v_show_kept_total - (1 : Int32)) v_stale (.inl c_2) hc_) gX10_carried_X10_requireRange rfl ⟨rfl, rfl⟩ hy_X10_requireRange ⟨Nat.le_of_ble_eq_true rfl, Nat.le_of_ble_eq_true rfl⟩ ⟨Nat.le_of_ble_eq_true rfl, Nat.le_of_ble_eq_true rfl⟩ rfl rfl rfl (q0 := 0) rfl rfl rfl (Nat.le_of_ble_eq_true rfl) rfl dX10_carried_39 rfl rfl hex rfl ⟨Nat.le_of_ble_eq_true rfl, Nat.le_of_ble_eq_true rfl⟩
    · have hF := xo_r hF
      refine gq_xrVv hC [0] [(h_t_, .inr (10, [.ref h_show, .ref h_history, .ref h_reader, .ref h_division, .ref h_placement, .ref h_titles, .ref h_page, .int v_stale])), (h_show, .inr (6, [.ref h_show_transcript, .ref h_show_slots, .ref h_show_kept, .ref h_show_settings])), (h_show_transcript, .inr (9, [.int v_show_transcript_segmentCount, .int v_show_transcript_wordCount, .ref h_show_transcript_order, .ref h_show_transcript_durations, .ref h_show_transcript_pauses, .ref h_show_transcript_sizes, .ref h_show_transcript_words, .ref h_show_transcript_names])), (h_show_transcript_order, .inl (cI, 32, .inl v_show_transcript_order)), (h_show_transcript_durations, .inl (cI, 32, .inl v_show_transcript_durations)), (h_show_kept, .inr (2, [.int v_show_kept_exists, .int v_show_kept_segmentCount, .int v_show_kept_total, .ref h_show_kept_rows, .ref h_show_kept_starts, .ref h_show_kept_durations])), (h_show_kept_rows, .inl (cI, 32, .inl v_show_kept_rows)), (h_show_kept_starts, .inl (cI, 32, .inl v_show_kept_starts)), (h_show_kept_durations, .inl (cI, 32, .inl v_show_kept_durations))] [.int x1, .int (0 : Int32), .int (v_show_kept_total - (1 : Int32))] [] (k_X10_requireRange l hl D cI cJ cZ cO z h_t_ h_show h_history h_reader h_division h_placement h_titles h_page x1 (0 : Int32) (v_show_kept_total - (1 : Int32)) v_stale (.inr r_3) hc_) gX10_carried_X10_requireRange rfl ⟨rfl, rfl⟩ hy_X10_requireRange ⟨Nat.le_of_ble_eq_true rfl, Nat.le_of_ble_eq_true rfl⟩ ⟨Nat.le_of_ble_eq_true rfl, Nat.le_of_ble_eq_true rfl⟩ rfl rfl rfl (q0 := 0) rfl rfl rfl (Nat.le_of_ble_eq_true rfl) rfl dX10_carried_39 rfl rfl ?_
      have hC := gq_at hC (k' := 1) (n' := 6) ⟨Nat.le_of_ble_eq_true rfl, Nat.le_of_ble_eq_true rfl⟩
      refine gq_aload_n hC 0 dX10_carried_42 rfl rfl ?_
      refine gq_get hC (kf := 0) 0 hin_X10 rfl rfl (by decide) hw_12 rfl dX10_carried_43 ?_
      refine gq_get hC (kf := 2) 1 hin_X6 rfl rfl (by decide) hw_336 rfl dX10_carried_46 ?_
      refine gq_iload_n hC 1 dX10_carried_49 rfl rfl ?_
      refine gq_aload_n hC 0 dX10_carried_50 rfl rfl ?_
      refine gq_get hC (kf := 0) 0 hin_X10 rfl rfl (by decide) hw_12 rfl dX10_carried_51 ?_
      refine gq_get hC (kf := 0) 1 hin_X6 rfl rfl (by decide) hw_102 rfl dX10_carried_54 ?_
      obtain ⟨r_4, hc_, hF⟩ := ob1_e hF
      refine gq_callVi hC [5, 6, 7, 8, 2, 3, 4] [(h_t_, .inr (10, [.ref h_show, .ref h_history, .ref h_reader, .ref h_division, .ref h_placement, .ref h_titles, .ref h_page, .int v_stale])), (h_show, .inr (6, [.ref h_show_transcript, .ref h_show_slots, .ref h_show_kept, .ref h_show_settings])), (h_show_transcript, .inr (9, [.int v_show_transcript_segmentCount, .int v_show_transcript_wordCount, .ref h_show_transcript_order, .ref h_show_transcript_durations, .ref h_show_transcript_pauses, .ref h_show_transcript_sizes, .ref h_show_transcript_words, .ref h_show_transcript_names])), (h_show_transcript_order, .inl (cI, 32, .inl v_show_transcript_order)), (h_show_transcript_durations, .inl (cI, 32, .inl v_show_transcript_durations)), (h_show_kept, .inr (2, [.int v_show_kept_exists, .int v_show_kept_segmentCount, .int v_show_kept_total, .ref h_show_kept_rows, .ref h_show_kept_starts, .ref h_show_kept_durations])), (h_show_kept_rows, .inl (cI, 32, .inl v_show_kept_rows)), (h_show_kept_starts, .inl (cI, 32, .inl v_show_kept_starts)), (h_show_kept_durations, .inl (cI, 32, .inl v_show_kept_durations))] [.int x1, .ref h_show_transcript] [] (k_X2_carry l D cI cJ cZ cO z h_show_kept h_show_kept_rows h_show_kept_starts h_show_kept_durations h_show_transcript h_show_transcript_order h_show_transcript_durations h_show_transcript_pauses h_show_transcript_sizes h_show_transcript_words h_show_transcript_names x1 v_show_kept_exists v_show_kept_segmentCount v_show_kept_total v_show_kept_rows v_show_kept_starts v_show_kept_durations v_show_transcript_segmentCount v_show_transcript_wordCount v_show_transcript_order v_show_transcript_durations r_4 hc_) gX10_carried_X2_carry rfl ⟨rfl, rfl⟩ hy_X2_carry ⟨Nat.le_of_ble_eq_true rfl, Nat.le_of_ble_eq_true rfl⟩ rfl rfl rfl (q0 := 0) rfl rfl rfl (Nat.le_of_ble_eq_true rfl) rfl dX10_carried_57 rfl rfl ?_
      cases hF
      rw [hQ]
      exact gq_xiret hC (Nat.le_of_ble_eq_true rfl) (Nat.le_of_ble_eq_true rfl) rfl dX10_carried_60
  · have hF := (if_pos hc_5).symm.trans hF
    cases hF
    rw [hQ]
    exact gq_throwSW (code := 1) (text := "no version is kept") hC hex hl (by decide +kernel) ⟨(List.mem_of_getElem? (i := 1) rfl), (List.mem_of_getElem? (i := 2) rfl)⟩ ⟨by decide +kernel, by decide +kernel⟩ (by decide +kernel) hat_1 dX10_carried_13 dX10_carried_16 dX10_carried_17 dX10_carried_20 dX10_carried_23 ⟨Nat.le_of_ble_eq_true rfl, Nat.le_of_ble_eq_true rfl, Nat.le_of_ble_eq_true rfl, Nat.le_of_ble_eq_true rfl⟩ rfl (Nat.le_of_ble_eq_true rfl) (Nat.le_of_ble_eq_true rfl)
theorem hy_X10_writtenByte : yX10_writtenByte.cls = RX10 ∧ yX10_writtenByte.cls ≠ "java/lang/invoke/MethodHandle" ∧ yX10_writtenByte.cls ≠ "java/lang/invoke/VarHandle" ∧ (parseMethodDescriptor yX10_writtenByte.desc).map (fun d => d.parameters.length) = some 1 := by decide +kernel
set_option maxRecDepth 20000 in
set_option maxHeartbeats 4000000 in
theorem k_X10_writtenByte (l : Launch) (hl : l.stackTraces = false) (D : va_G) (cI cJ cZ cO : ClassId) (z : Nat → Nat)  (h_t_ : Nat) (h_page : Nat) (h_page_bytes : Nat) (h_show : Nat) (h_history : Nat) (h_reader : Nat) (h_division : Nat) (h_placement : Nat) (h_titles : Nat) (x1 : Int32) (v_stale : Int32) (v_page_length : Int32) (v_page_bytes : Nat → Int32) (r_ : (Nat ⊕ Int32)) (hF : F_X10_writtenByte x1 v_page_length v_page_bytes = some r_) : Xi l yX10_writtenByte wsX10_writtenByte (rmX 6 1) D (gq_ty cI cJ cZ cO) z [.ref h_t_, .int x1] [(h_t_, .inr (10, [.ref h_show, .ref h_history, .ref h_reader, .ref h_division, .ref h_placement, .ref h_titles, .ref h_page, .int v_stale])), (h_page, .inr (3, [.int v_page_length, .ref h_page_bytes])), (h_page_bytes, .inl (cI, 1056, .inl v_page_bytes))] r_ [(h_t_, .inr (10, [.ref h_show, .ref h_history, .ref h_reader, .ref h_division, .ref h_placement, .ref h_titles, .ref h_page, .int v_stale])), (h_page, .inr (3, [.int v_page_length, .ref h_page_bytes])), (h_page_bytes, .inl (cI, 1056, .inl v_page_bytes))] 1 6 := by
  refine Xi.of (cc := cX10_writtenByte) (maxL := 2) (by decide) rfl (Nat.le_of_ble_eq_true rfl) ?_
  intro p e s m args below meth c A hC hex
  have hin_X10 : ∀ w ∈ wsX100, w ∈ wsX10_writtenByte := fun w h => List.mem_cons_of_mem _ (List.mem_append_left _ (List.mem_append_left _ (List.mem_append_right _ h)))
  have hin_X3 : ∀ w ∈ wsX30, w ∈ wsX10_writtenByte := fun w h => List.mem_cons_of_mem _ (List.mem_append_left _ (List.mem_append_right _ h))
  have hw_54 : Cond.fieldLink RX10 54 (TX10 6).1 (TX10 6).2.1 (TX10 6).2.2.1 ∈ wsX10_writtenByte := (List.mem_of_getElem? (i := 3) rfl)
  have hw_371 : Cond.fieldLink RX10 371 (TX3 0).1 (TX3 0).2.1 (TX3 0).2.2.1 ∈ wsX10_writtenByte := (List.mem_of_getElem? (i := 4) rfl)
  have hw_376 : Cond.fieldLink RX10 376 (TX3 1).1 (TX3 1).2.1 (TX3 1).2.2.1 ∈ wsX10_writtenByte := (List.mem_of_getElem? (i := 5) rfl)
  obtain ⟨Q, hQ⟩ : ∃ Q, Q = gq_Xi below D A args s r_ [(h_t_, .inr (10, [.ref h_show, .ref h_history, .ref h_reader, .ref h_division, .ref h_placement, .ref h_titles, .ref h_page, .int v_stale])), (h_page, .inr (3, [.int v_page_length, .ref h_page_bytes])), (h_page_bytes, .inl (cI, 1056, .inl v_page_bytes))] 1 6 := ⟨_, rfl⟩
  rw [← hQ]
  refine gq_loc [(0, .ref h_t_), (1, .int x1)] rfl ?_
  have jb15 : F_X10_writtenByte_b15  = some r_ → Gx p l e (rmX 6 1) s m args below meth c D A 2 Q 0 0 15 [] [] [(h_t_, .inr (10, [.ref h_show, .ref h_history, .ref h_reader, .ref h_division, .ref h_placement, .ref h_titles, .ref h_page, .int v_stale])), (h_page, .inr (3, [.int v_page_length, .ref h_page_bytes])), (h_page_bytes, .inl (cI, 1056, .inl v_page_bytes))] := by
    intro  hF
    unfold F_X10_writtenByte_b15 at hF
    cases hF
    rw [hQ]
    exact gq_throwSW (code := 3) (text := "the written text has no such byte") hC hex hl (by decide +kernel) ⟨(List.mem_of_getElem? (i := 1) rfl), (List.mem_of_getElem? (i := 2) rfl)⟩ ⟨by decide +kernel, by decide +kernel⟩ (by decide +kernel) hat_3 dX10_writtenByte_15 dX10_writtenByte_18 dX10_writtenByte_19 dX10_writtenByte_22 dX10_writtenByte_25 ⟨Nat.le_of_ble_eq_true rfl, Nat.le_of_ble_eq_true rfl, Nat.le_of_ble_eq_true rfl, Nat.le_of_ble_eq_true rfl⟩ rfl (Nat.le_of_ble_eq_true rfl) (Nat.le_of_ble_eq_true rfl)
  unfold F_X10_writtenByte at hF
  refine gq_iload_n hC 1 dX10_writtenByte_0 rfl rfl ?_
  refine gq_if_lt hC 15 dX10_writtenByte_1 (by decide) (fun hc_3 => ?_) (fun hc_3 => ?_)
  · have hF := (if_pos hc_3).symm.trans hF
    refine gq_sub [] [] rfl ?_
    exact jb15  hF
  · have hF := (if_neg hc_3).symm.trans hF
    refine gq_iload_n hC 1 dX10_writtenByte_4 rfl rfl ?_
    refine gq_aload_n hC 0 dX10_writtenByte_5 rfl rfl ?_
    refine gq_get hC (kf := 6) 0 hin_X10 rfl rfl (by decide) hw_54 rfl dX10_writtenByte_6 ?_
    refine gq_get hC (kf := 0) 1 hin_X3 rfl rfl (by decide) hw_371 rfl dX10_writtenByte_9 ?_
    refine gq_icmp_lt hC 26 dX10_writtenByte_12 (by decide) (fun hc_2 => ?_) (fun hc_2 => ?_)
    · have hF := (if_pos hc_2).symm.trans hF
      refine gq_aload_n hC 0 dX10_writtenByte_26 rfl rfl ?_
      refine gq_get hC (kf := 6) 0 hin_X10 rfl rfl (by decide) hw_54 rfl dX10_writtenByte_27 ?_
      refine gq_get hC (kf := 1) 1 hin_X3 rfl rfl (by decide) hw_376 rfl dX10_writtenByte_30 ?_
      refine gq_iload_n hC 1 dX10_writtenByte_33 rfl rfl ?_
      obtain ⟨hi_1, hF⟩ := gi_e hF
      refine gq_iald hC 2 0 rfl rfl hi_1 dX10_writtenByte_34 ?_
      cases hF
      rw [hQ]
      exact gq_xiret hC (Nat.le_of_ble_eq_true rfl) (Nat.le_of_ble_eq_true rfl) rfl dX10_writtenByte_35
    · have hF := (if_neg hc_2).symm.trans hF
      refine gq_sub [] [] rfl ?_
      exact jb15  hF
