set_option maxRecDepth 20000 in
theorem ggJ0_length_8abf5_J0_coder_7d493 : GoodIn wsJ0_length_8abf5 wsJ0_coder_7d493 := goodIn_r _ [6, 7, 8] (by decide +kernel) (by decide +kernel)
set_option maxRecDepth 20000 in
theorem gJ0_length_8abf5_J0_coder_7d493 : GoodIn wsJ0_length_8abf5 (wsV RJ0 335 RJ0 yJ0_coder_7d493 wsJ0_coder_7d493) := goodIn_app (goodIn_of _ (by decide +kernel)) ggJ0_length_8abf5_J0_coder_7d493
theorem dJ0_length_8abf5_0 : decode cJ0_length_8abf5 0 = .ok (.aload_n 0, 1) := by decide +kernel
theorem dJ0_length_8abf5_1 : decode cJ0_length_8abf5 1 = .ok (.getfield 9, 3) := by decide +kernel
theorem dJ0_length_8abf5_4 : decode cJ0_length_8abf5 4 = .ok (.arraylength, 1) := by decide +kernel
theorem dJ0_length_8abf5_5 : decode cJ0_length_8abf5 5 = .ok (.aload_n 0, 1) := by decide +kernel
theorem dJ0_length_8abf5_6 : decode cJ0_length_8abf5 6 = .ok (.invokevirtual 335, 3) := by decide +kernel
theorem dJ0_length_8abf5_9 : decode cJ0_length_8abf5 9 = .ok (.ishr, 1) := by decide +kernel
theorem dJ0_length_8abf5_10 : decode cJ0_length_8abf5 10 = .ok (.ireturn, 1) := by decide +kernel
set_option maxRecDepth 20000 in
theorem ggJ0_charAt_5068e_J0_isLatin1_aae02 : GoodIn wsJ0_charAt_5068e wsJ0_isLatin1_aae02 := goodIn_r _ [6, 7, 8] (by decide +kernel) (by decide +kernel)
set_option maxRecDepth 20000 in
theorem gJ0_charAt_5068e_J0_isLatin1_aae02 : GoodIn wsJ0_charAt_5068e (wsV RJ0 492 RJ0 yJ0_isLatin1_aae02 wsJ0_isLatin1_aae02) := goodIn_app (goodIn_of _ (by decide +kernel)) ggJ0_charAt_5068e_J0_isLatin1_aae02
set_option maxRecDepth 20000 in
theorem ggJ0_charAt_5068e_J1_charAt_3b067 : GoodIn wsJ0_charAt_5068e wsJ1_charAt_3b067 := goodIn_r _ [12, 13, 14, 5, 15, 16, 17, 18, 19, 20] (by decide +kernel) (by decide +kernel)
set_option maxRecDepth 20000 in
theorem gJ0_charAt_5068e_J1_charAt_3b067 : GoodIn wsJ0_charAt_5068e (va_wsS RJ0 495 yJ1_charAt_3b067 wsJ1_charAt_3b067) := goodIn_app (goodIn_of _ (by decide +kernel)) ggJ0_charAt_5068e_J1_charAt_3b067
set_option maxRecDepth 20000 in
theorem ggJ0_charAt_5068e_J2_charAt_3b067 : GoodIn wsJ0_charAt_5068e wsJ2_charAt_3b067 := goodIn_r _ [24, 25, 26, 23, 27, 28, 29, 30, 31, 14, 5, 15, 16, 17, 18, 19, 20, 32, 33, 34, 35, 36, 37] (by decide +kernel) (by decide +kernel)
set_option maxRecDepth 20000 in
theorem gJ0_charAt_5068e_J2_charAt_3b067 : GoodIn wsJ0_charAt_5068e (va_wsS RJ0 498 yJ2_charAt_3b067 wsJ2_charAt_3b067) := goodIn_app (goodIn_of _ (by decide +kernel)) ggJ0_charAt_5068e_J2_charAt_3b067
theorem dJ0_charAt_5068e_0 : decode cJ0_charAt_5068e 0 = .ok (.aload_n 0, 1) := by decide +kernel
theorem dJ0_charAt_5068e_1 : decode cJ0_charAt_5068e 1 = .ok (.invokevirtual 492, 3) := by decide +kernel
theorem dJ0_charAt_5068e_4 : decode cJ0_charAt_5068e 4 = .ok (.ifCond .eq 12, 3) := by decide +kernel
theorem dJ0_charAt_5068e_7 : decode cJ0_charAt_5068e 7 = .ok (.aload_n 0, 1) := by decide +kernel
theorem dJ0_charAt_5068e_8 : decode cJ0_charAt_5068e 8 = .ok (.getfield 9, 3) := by decide +kernel
theorem dJ0_charAt_5068e_11 : decode cJ0_charAt_5068e 11 = .ok (.iload_n 1, 1) := by decide +kernel
theorem dJ0_charAt_5068e_12 : decode cJ0_charAt_5068e 12 = .ok (.invokestatic 495, 3) := by decide +kernel
theorem dJ0_charAt_5068e_15 : decode cJ0_charAt_5068e 15 = .ok (.ireturn, 1) := by decide +kernel
theorem dJ0_charAt_5068e_16 : decode cJ0_charAt_5068e 16 = .ok (.aload_n 0, 1) := by decide +kernel
theorem dJ0_charAt_5068e_17 : decode cJ0_charAt_5068e 17 = .ok (.getfield 9, 3) := by decide +kernel
theorem dJ0_charAt_5068e_20 : decode cJ0_charAt_5068e 20 = .ok (.iload_n 1, 1) := by decide +kernel
theorem dJ0_charAt_5068e_21 : decode cJ0_charAt_5068e 21 = .ok (.invokestatic 498, 3) := by decide +kernel
theorem dJ0_charAt_5068e_24 : decode cJ0_charAt_5068e 24 = .ok (.ireturn, 1) := by decide +kernel
theorem dJ0_coder_7d493_0 : decode cJ0_coder_7d493 0 = .ok (.getstatic 38, 3) := by decide +kernel
theorem dJ0_coder_7d493_3 : decode cJ0_coder_7d493 3 = .ok (.ifCond .eq 10, 3) := by decide +kernel
theorem dJ0_coder_7d493_6 : decode cJ0_coder_7d493 6 = .ok (.aload_n 0, 1) := by decide +kernel
theorem dJ0_coder_7d493_7 : decode cJ0_coder_7d493 7 = .ok (.getfield 15, 3) := by decide +kernel
theorem dJ0_coder_7d493_10 : decode cJ0_coder_7d493 10 = .ok (.goto 4, 3) := by decide +kernel
theorem dJ0_coder_7d493_13 : decode cJ0_coder_7d493 13 = .ok (.iconst 1, 1) := by decide +kernel
theorem dJ0_coder_7d493_14 : decode cJ0_coder_7d493 14 = .ok (.ireturn, 1) := by decide +kernel
theorem dJ0_isLatin1_aae02_0 : decode cJ0_isLatin1_aae02 0 = .ok (.getstatic 38, 3) := by decide +kernel
theorem dJ0_isLatin1_aae02_3 : decode cJ0_isLatin1_aae02 3 = .ok (.ifCond .eq 14, 3) := by decide +kernel
theorem dJ0_isLatin1_aae02_6 : decode cJ0_isLatin1_aae02 6 = .ok (.aload_n 0, 1) := by decide +kernel
theorem dJ0_isLatin1_aae02_7 : decode cJ0_isLatin1_aae02 7 = .ok (.getfield 15, 3) := by decide +kernel
theorem dJ0_isLatin1_aae02_10 : decode cJ0_isLatin1_aae02 10 = .ok (.ifCond .ne 7, 3) := by decide +kernel
theorem dJ0_isLatin1_aae02_13 : decode cJ0_isLatin1_aae02 13 = .ok (.iconst 1, 1) := by decide +kernel
theorem dJ0_isLatin1_aae02_14 : decode cJ0_isLatin1_aae02 14 = .ok (.goto 4, 3) := by decide +kernel
theorem dJ0_isLatin1_aae02_17 : decode cJ0_isLatin1_aae02 17 = .ok (.iconst 0, 1) := by decide +kernel
theorem dJ0_isLatin1_aae02_18 : decode cJ0_isLatin1_aae02 18 = .ok (.ireturn, 1) := by decide +kernel
set_option maxRecDepth 20000 in
theorem ggJ0_checkIndex_df160_J3_checkIndex_8e157 : GoodIn wsJ0_checkIndex_df160 wsJ3_checkIndex_8e157 := goodIn_r _ [5] (by decide +kernel) (by decide +kernel)
set_option maxRecDepth 20000 in
theorem gJ0_checkIndex_df160_J3_checkIndex_8e157 : GoodIn wsJ0_checkIndex_df160 (va_wsS RJ0 1059 yJ3_checkIndex_8e157 wsJ3_checkIndex_8e157) := goodIn_app (goodIn_of _ (by decide +kernel)) ggJ0_checkIndex_df160_J3_checkIndex_8e157
theorem dJ0_checkIndex_df160_0 : decode cJ0_checkIndex_df160 0 = .ok (.iload_n 0, 1) := by decide +kernel
theorem dJ0_checkIndex_df160_1 : decode cJ0_checkIndex_df160 1 = .ok (.iload_n 1, 1) := by decide +kernel
theorem dJ0_checkIndex_df160_2 : decode cJ0_checkIndex_df160 2 = .ok (.getstatic 1053, 3) := by decide +kernel
theorem dJ0_checkIndex_df160_5 : decode cJ0_checkIndex_df160 5 = .ok (.invokestatic 1059, 3) := by decide +kernel
theorem dJ0_checkIndex_df160_8 : decode cJ0_checkIndex_df160 8 = .ok (.pop, 1) := by decide +kernel
theorem dJ0_checkIndex_df160_9 : decode cJ0_checkIndex_df160 9 = .ok (.return_, 1) := by decide +kernel
set_option maxRecDepth 20000 in
theorem ggJ1_charAt_3b067_J0_checkIndex_df160 : GoodIn wsJ1_charAt_3b067 wsJ0_checkIndex_df160 := goodIn_r _ [4, 5, 6, 7, 8, 9] (by decide +kernel) (by decide +kernel)
set_option maxRecDepth 20000 in
theorem gJ1_charAt_3b067_J0_checkIndex_df160 : GoodIn wsJ1_charAt_3b067 (va_wsS RJ1 9 yJ0_checkIndex_df160 wsJ0_checkIndex_df160) := goodIn_app (goodIn_of _ (by decide +kernel)) ggJ1_charAt_3b067_J0_checkIndex_df160
theorem dJ1_charAt_3b067_0 : decode cJ1_charAt_3b067 0 = .ok (.iload_n 1, 1) := by decide +kernel
theorem dJ1_charAt_3b067_1 : decode cJ1_charAt_3b067 1 = .ok (.aload_n 0, 1) := by decide +kernel
theorem dJ1_charAt_3b067_2 : decode cJ1_charAt_3b067 2 = .ok (.arraylength, 1) := by decide +kernel
theorem dJ1_charAt_3b067_3 : decode cJ1_charAt_3b067 3 = .ok (.invokestatic 9, 3) := by decide +kernel
theorem dJ1_charAt_3b067_6 : decode cJ1_charAt_3b067 6 = .ok (.aload_n 0, 1) := by decide +kernel
theorem dJ1_charAt_3b067_7 : decode cJ1_charAt_3b067 7 = .ok (.iload_n 1, 1) := by decide +kernel
theorem dJ1_charAt_3b067_8 : decode cJ1_charAt_3b067 8 = .ok (.baload, 1) := by decide +kernel
theorem dJ1_charAt_3b067_9 : decode cJ1_charAt_3b067 9 = .ok (.sipush 255, 3) := by decide +kernel
theorem dJ1_charAt_3b067_12 : decode cJ1_charAt_3b067 12 = .ok (.iand, 1) := by decide +kernel
theorem dJ1_charAt_3b067_13 : decode cJ1_charAt_3b067 13 = .ok (.i2c, 1) := by decide +kernel
theorem dJ1_charAt_3b067_14 : decode cJ1_charAt_3b067 14 = .ok (.ireturn, 1) := by decide +kernel
theorem dJ3_checkIndex_8e157_0 : decode cJ3_checkIndex_8e157 0 = .ok (.iload_n 0, 1) := by decide +kernel
theorem dJ3_checkIndex_8e157_1 : decode cJ3_checkIndex_8e157 1 = .ok (.ifCond .lt 8, 3) := by decide +kernel
theorem dJ3_checkIndex_8e157_4 : decode cJ3_checkIndex_8e157 4 = .ok (.iload_n 0, 1) := by decide +kernel
theorem dJ3_checkIndex_8e157_5 : decode cJ3_checkIndex_8e157 5 = .ok (.iload_n 1, 1) := by decide +kernel
theorem dJ3_checkIndex_8e157_6 : decode cJ3_checkIndex_8e157 6 = .ok (.if_icmp .lt 10, 3) := by decide +kernel
theorem dJ3_checkIndex_8e157_9 : decode cJ3_checkIndex_8e157 9 = .ok (.aload_n 2, 1) := by decide +kernel
theorem dJ3_checkIndex_8e157_10 : decode cJ3_checkIndex_8e157 10 = .ok (.iload_n 0, 1) := by decide +kernel
theorem dJ3_checkIndex_8e157_11 : decode cJ3_checkIndex_8e157 11 = .ok (.iload_n 1, 1) := by decide +kernel
theorem dJ3_checkIndex_8e157_12 : decode cJ3_checkIndex_8e157 12 = .ok (.invokestatic 95, 3) := by decide +kernel
theorem dJ3_checkIndex_8e157_15 : decode cJ3_checkIndex_8e157 15 = .ok (.athrow, 1) := by decide +kernel
theorem dJ3_checkIndex_8e157_16 : decode cJ3_checkIndex_8e157 16 = .ok (.iload_n 0, 1) := by decide +kernel
theorem dJ3_checkIndex_8e157_17 : decode cJ3_checkIndex_8e157 17 = .ok (.ireturn, 1) := by decide +kernel
/-! ===== the JDK's own methods on the three quoted words of the reference ===== -/
theorem hy_J0_coder : yJ0_coder_7d493.cls = RJ0 ∧ yJ0_coder_7d493.cls ≠ "java/lang/invoke/MethodHandle" ∧ yJ0_coder_7d493.cls ≠ "java/lang/invoke/VarHandle" ∧ (parseMethodDescriptor yJ0_coder_7d493.desc).map (fun d => d.parameters.length) = some 0 := by decide +kernel
theorem hy_J0_length : yJ0_length_8abf5.cls = RJ0 ∧ yJ0_length_8abf5.cls ≠ "java/lang/invoke/MethodHandle" ∧ yJ0_length_8abf5.cls ≠ "java/lang/invoke/VarHandle" ∧ (parseMethodDescriptor yJ0_length_8abf5.desc).map (fun d => d.parameters.length) = some 0 := by decide +kernel
theorem hy_J0_charAt : yJ0_charAt_5068e.cls = RJ0 ∧ yJ0_charAt_5068e.cls ≠ "java/lang/invoke/MethodHandle" ∧ yJ0_charAt_5068e.cls ≠ "java/lang/invoke/VarHandle" ∧ (parseMethodDescriptor yJ0_charAt_5068e.desc).map (fun d => d.parameters.length) = some 1 := by decide +kernel
theorem hy_J0_isLatin1 : yJ0_isLatin1_aae02.cls = RJ0 ∧ yJ0_isLatin1_aae02.cls ≠ "java/lang/invoke/MethodHandle" ∧ yJ0_isLatin1_aae02.cls ≠ "java/lang/invoke/VarHandle" ∧ (parseMethodDescriptor yJ0_isLatin1_aae02.desc).map (fun d => d.parameters.length) = some 0 := by decide +kernel
theorem hy_J0_checkIndex : yJ0_checkIndex_df160.cls = RJ0 ∧ yJ0_checkIndex_df160.cls ≠ "java/lang/invoke/MethodHandle" ∧ yJ0_checkIndex_df160.cls ≠ "java/lang/invoke/VarHandle" ∧ (parseMethodDescriptor yJ0_checkIndex_df160.desc).map (fun d => d.parameters.length) = some 2 := by decide +kernel
theorem hy_J3_checkIndex : yJ3_checkIndex_8e157.cls = RJ3 ∧ yJ3_checkIndex_8e157.cls ≠ "java/lang/invoke/MethodHandle" ∧ yJ3_checkIndex_8e157.cls ≠ "java/lang/invoke/VarHandle" ∧ (parseMethodDescriptor yJ3_checkIndex_8e157.desc).map (fun d => d.parameters.length) = some 3 := by decide +kernel
theorem hy_J1_charAt : yJ1_charAt_3b067.cls = RJ1 ∧ yJ1_charAt_3b067.cls ≠ "java/lang/invoke/MethodHandle" ∧ yJ1_charAt_3b067.cls ≠ "java/lang/invoke/VarHandle" ∧ (parseMethodDescriptor yJ1_charAt_3b067.desc).map (fun d => d.parameters.length) = some 2 := by decide +kernel
set_option maxRecDepth 20000 in
theorem k_J0_coder (l : Launch) (D : va_G) (T : List (ClassId × FieldType)) (z : Nat → Nat) (i : Nat) (hi : i < 3) : Mi l yJ0_coder_7d493 wsJ0_coder_7d493 (rmD 0) D T z [.ref (z (3 + i))] [] 0 [] 0 0 := by
  refine Mi.of (cc := cJ0_coder_7d493) (maxL := 1) (by decide) rfl (Nat.le_of_ble_eq_true rfl) ⟨Nat.le_refl 0, Nat.le_refl 0⟩ ?_
  intro p e s m args below meth c A hC ha
  obtain ⟨Q, hQ⟩ : ∃ Q, Q = gq_Qi below D A args s 0 [] 0 0 := ⟨_, rfl⟩
  rw [← hQ]
  refine gq_loc [(0, .ref (z (3 + i)))] rfl ?_
  have hE := hC.2.2.2.2.2.2.2.2.2.2.2.2.2.2.2
  refine gq_getsv hC hE.2.1 (by decide +kernel) dJ0_coder_7d493_0 ?_
  refine gq_if_eq hC 13 dJ0_coder_7d493_3 (by decide) (fun h => absurd h (by decide)) (fun h => ?_)
  refine gq_aload_n hC 0 dJ0_coder_7d493_6 rfl rfl ?_
  refine gq_getO hC (hE.1.1 i hi).2.1 (by decide +kernel) dJ0_coder_7d493_7 ?_
  refine gq_goto hC 14 dJ0_coder_7d493_10 (by decide) ?_
  rw [hQ]
  exact gq_iret hC rfl dJ0_coder_7d493_14
set_option maxRecDepth 20000 in
theorem k_J0_length (l : Launch) (D : va_G) (T : List (ClassId × FieldType)) (z : Nat → Nat) (i : Nat) (hi : i < 3) : Mi l yJ0_length_8abf5 wsJ0_length_8abf5 (rmD 1) D T z [.ref (z (3 + i))] [] (Int32.ofNat (gq_tl.getD i 0) >>> ((0 : Int32) &&& 31)) [] 0 0 := by
  refine Mi.of (cc := cJ0_length_8abf5) (maxL := 1) (by decide) rfl (Nat.le_of_ble_eq_true rfl) ⟨Nat.le_refl 0, Nat.le_refl 0⟩ ?_
  intro p e s m args below meth c A hC ha
  obtain ⟨Q, hQ⟩ : ∃ Q, Q = gq_Qi below D A args s (Int32.ofNat (gq_tl.getD i 0) >>> ((0 : Int32) &&& 31)) [] 0 0 := ⟨_, rfl⟩
  rw [← hQ]
  refine gq_loc [(0, .ref (z (3 + i)))] rfl ?_
  have hE := hC.2.2.2.2.2.2.2.2.2.2.2.2.2.2.2
  refine gq_aload_n hC 0 dJ0_length_8abf5_0 rfl rfl ?_
  refine gq_getO hC (hE.1.1 i hi).2.2.1 (by decide +kernel) dJ0_length_8abf5_1 ?_
  refine gq_tlen hC (hE.1.1 i hi).2.2.2 dJ0_length_8abf5_4 ?_
  refine gq_aload_n hC 0 dJ0_length_8abf5_5 rfl rfl ?_
  refine gq_callRi hC [] [] [] [.int (Int32.ofNat (gq_tl.getD i 0))] (k_J0_coder l D T z i hi) gJ0_length_8abf5_J0_coder_7d493 rfl ⟨rfl, rfl⟩ hy_J0_coder ⟨Nat.le_of_ble_eq_true rfl, Nat.le_of_ble_eq_true rfl⟩ rfl rfl rfl (fun _ _ hS => vk_recv (i := i) (adK := fun j => z (3 + j)) hE.1 hi hS) (Nat.le_of_ble_eq_true rfl) rfl dJ0_length_8abf5_6 rfl rfl ?_
  refine gq_ishr hC dJ0_length_8abf5_9 ?_
  rw [hQ]
  exact gq_iret hC rfl dJ0_length_8abf5_10
set_option maxRecDepth 20000 in
theorem k_J0_isLatin1 (l : Launch) (D : va_G) (T : List (ClassId × FieldType)) (z : Nat → Nat) (i : Nat) (hi : i < 3) : Mi l yJ0_isLatin1_aae02 wsJ0_isLatin1_aae02 (rmD 0) D T z [.ref (z (3 + i))] [] 1 [] 0 0 := by
  refine Mi.of (cc := cJ0_isLatin1_aae02) (maxL := 1) (by decide) rfl (Nat.le_of_ble_eq_true rfl) ⟨Nat.le_refl 0, Nat.le_refl 0⟩ ?_
  intro p e s m args below meth c A hC ha
  obtain ⟨Q, hQ⟩ : ∃ Q, Q = gq_Qi below D A args s 1 [] 0 0 := ⟨_, rfl⟩
  rw [← hQ]
  refine gq_loc [(0, .ref (z (3 + i)))] rfl ?_
  have hE := hC.2.2.2.2.2.2.2.2.2.2.2.2.2.2.2
  refine gq_getsv hC hE.2.1 (by decide +kernel) dJ0_isLatin1_aae02_0 ?_
  refine gq_if_eq hC 17 dJ0_isLatin1_aae02_3 (by decide) (fun h => absurd h (by decide)) (fun h => ?_)
  refine gq_aload_n hC 0 dJ0_isLatin1_aae02_6 rfl rfl ?_
  refine gq_getO hC (hE.1.1 i hi).2.1 (by decide +kernel) dJ0_isLatin1_aae02_7 ?_
  refine gq_if_ne hC 17 dJ0_isLatin1_aae02_10 (by decide) (fun h => absurd rfl h) (fun h => ?_)
  refine gq_iconst hC (1 : Int32) dJ0_isLatin1_aae02_13 (by decide) ?_
  refine gq_goto hC 18 dJ0_isLatin1_aae02_14 (by decide) ?_
  rw [hQ]
  exact gq_iret hC rfl dJ0_isLatin1_aae02_18
set_option maxRecDepth 20000 in
theorem k_J3_checkIndex (l : Launch) (D : va_G) (T : List (ClassId × FieldType)) (z : Nat → Nat) (x N : Int32) (v : Value) (hv : v = .null ∨ ∃ t, v = .ref t) (h0 : ¬ x < 0) (h1 : x < N) : Mi l yJ3_checkIndex_8e157 wsJ3_checkIndex_8e157 (rmD 0) D T z [.int x, .int N, v] [] x [] 0 0 := by
  have hv1 : v.category = 1 := by rcases hv with rfl | ⟨t, rfl⟩ <;> rfl
  have hsl : lg_sl [.int x, .int N, v] = [.val (.int x), .val (.int N), .val v] := by rcases hv with rfl | ⟨t, rfl⟩ <;> rfl
  refine Mi.of (cc := cJ3_checkIndex_8e157) (maxL := 3) (by decide) rfl (by rw [hsl]; exact Nat.le_of_ble_eq_true rfl) ⟨Nat.le_refl 0, Nat.le_refl 0⟩ ?_
  intro p e s m args below meth c A hC ha
  obtain ⟨Q, hQ⟩ : ∃ Q, Q = gq_Qi below D A args s x [] 0 0 := ⟨_, rfl⟩
  rw [← hQ]
  refine gq_loc [(0, .int x), (1, .int N), (2, v)] rfl ?_
  refine gq_iload_n hC 0 dJ3_checkIndex_8e157_0 rfl rfl ?_
  refine gq_if_lt hC 9 dJ3_checkIndex_8e157_1 (by decide) (fun h => absurd h h0) (fun h => ?_)
  refine gq_iload_n hC 0 dJ3_checkIndex_8e157_4 rfl rfl ?_
  refine gq_iload_n hC 1 dJ3_checkIndex_8e157_5 rfl rfl ?_
  refine gq_icmp_lt hC 16 dJ3_checkIndex_8e157_6 (by decide) (fun h => ?_) (fun h => absurd h1 h)
  refine gq_iload_n hC 0 dJ3_checkIndex_8e157_16 rfl rfl ?_
  rw [hQ]
  exact gq_iret hC rfl dJ3_checkIndex_8e157_17
set_option maxRecDepth 20000 in
theorem k_J0_checkIndex (l : Launch) (D : va_G) (T : List (ClassId × FieldType)) (z : Nat → Nat) (x N : Int32) (h0 : ¬ x < 0) (h1 : x < N) : Mv l yJ0_checkIndex_df160 wsJ0_checkIndex_df160 (rmD 1) D T z [.int x, .int N] [] [] 0 0 := by
  refine Mv.of (cc := cJ0_checkIndex_df160) (maxL := 2) (by decide) rfl (Nat.le_of_ble_eq_true rfl) ⟨Nat.le_refl 0, Nat.le_refl 0⟩ ?_
  intro p e s m args below meth c A hC ha
  obtain ⟨Q, hQ⟩ : ∃ Q, Q = gq_Qv below D A args s [] 0 0 := ⟨_, rfl⟩
  rw [← hQ]
  refine gq_loc [(0, .int x), (1, .int N)] rfl ?_
  have hE := hC.2.2.2.2.2.2.2.2.2.2.2.2.2.2.2
  refine gq_iload_n hC 0 dJ0_checkIndex_df160_0 rfl rfl ?_
  refine gq_iload_n hC 1 dJ0_checkIndex_df160_1 rfl rfl ?_
  rcases hE.2.2 with hz | ⟨t, hz⟩
  · refine gq_getsv hC hz (by decide +kernel) dJ0_checkIndex_df160_2 ?_
    refine gq_callWi hC [] [] [.int x, .int N, .null] [] (k_J3_checkIndex l D T z x N .null (Or.inl rfl) h0 h1) gJ0_checkIndex_df160_J3_checkIndex_8e157 rfl ⟨rfl, rfl⟩ hy_J3_checkIndex ⟨Nat.le_of_ble_eq_true rfl, Nat.le_of_ble_eq_true rfl⟩ rfl rfl rfl (Nat.le_of_ble_eq_true rfl) rfl dJ0_checkIndex_df160_5 rfl rfl ?_
    refine gq_pop hC dJ0_checkIndex_df160_8 rfl ?_
    rw [hQ]
    exact gq_vret hC dJ0_checkIndex_df160_9
  · refine gq_getsv hC hz (by decide +kernel) dJ0_checkIndex_df160_2 ?_
    refine gq_callWi hC [] [] [.int x, .int N, .ref t] [] (k_J3_checkIndex l D T z x N (.ref t) (Or.inr ⟨t, rfl⟩) h0 h1) gJ0_checkIndex_df160_J3_checkIndex_8e157 rfl ⟨rfl, rfl⟩ hy_J3_checkIndex ⟨Nat.le_of_ble_eq_true rfl, Nat.le_of_ble_eq_true rfl⟩ rfl rfl rfl (Nat.le_of_ble_eq_true rfl) rfl dJ0_checkIndex_df160_5 rfl rfl ?_
    refine gq_pop hC dJ0_checkIndex_df160_8 rfl ?_
    rw [hQ]
    exact gq_vret hC dJ0_checkIndex_df160_9
/-- the char at a place of a quoted word -/
def gq_ch (i : Nat) (x : Int32) : Int32 := ((((gq_tb.getD i []).getD x.toNatClampNeg 0) &&& 255).toUInt32 % 65536).toInt32
theorem gq_tl_lt : ∀ i, i < 3 → gq_tl.getD i 0 < 2 ^ 31 := by decide
theorem gq_ix {x : Int32} {N : Nat} (hN : N < 2 ^ 31) (h : vp_in x N) : ¬ x < 0 ∧ x < Int32.ofNat N := by
  obtain ⟨j, hj, rfl⟩ := vp_in_of h hN
  exact ⟨nI_pos (by omega), nI_lt hj hN⟩
set_option maxRecDepth 20000 in
theorem k_J1_charAt (l : Launch) (D : va_G) (T : List (ClassId × FieldType)) (z : Nat → Nat) (i : Nat) (hi : i < 3) (x : Int32) (hx : vp_in x (gq_tl.getD i 0)) : Mi l yJ1_charAt_3b067 wsJ1_charAt_3b067 (rmD 2) D T z [.ref (z (6 + i)), .int x] [] (gq_ch i x) [] 0 0 := by
  refine Mi.of (cc := cJ1_charAt_3b067) (maxL := 2) (by decide) rfl (Nat.le_of_ble_eq_true rfl) ⟨Nat.le_refl 0, Nat.le_refl 0⟩ ?_
  intro p e s m args below meth c A hC ha
  obtain ⟨Q, hQ⟩ : ∃ Q, Q = gq_Qi below D A args s (gq_ch i x) [] 0 0 := ⟨_, rfl⟩
  rw [← hQ]
  refine gq_loc [(0, .ref (z (6 + i))), (1, .int x)] rfl ?_
  have hE := hC.2.2.2.2.2.2.2.2.2.2.2.2.2.2.2
  have hr := gq_ix (gq_tl_lt i hi) hx
  refine gq_iload_n hC 1 dJ1_charAt_3b067_0 rfl rfl ?_
  refine gq_aload_n hC 0 dJ1_charAt_3b067_1 rfl rfl ?_
  refine gq_tlen hC (hE.1.1 i hi).2.2.2 dJ1_charAt_3b067_2 ?_
  refine gq_callWv hC [] [] [.int x, .int (Int32.ofNat (gq_tl.getD i 0))] [] (k_J0_checkIndex l D T z x _ hr.1 hr.2) gJ1_charAt_3b067_J0_checkIndex_df160 rfl ⟨rfl, rfl⟩ hy_J0_checkIndex ⟨Nat.le_of_ble_eq_true rfl, Nat.le_of_ble_eq_true rfl⟩ rfl rfl rfl (Nat.le_of_ble_eq_true rfl) rfl dJ1_charAt_3b067_3 rfl rfl ?_
  refine gq_aload_n hC 0 dJ1_charAt_3b067_6 rfl rfl ?_
  refine gq_iload_n hC 1 dJ1_charAt_3b067_7 rfl rfl ?_
  refine gq_tbld hC (hE.1.1 i hi).2.2.2 hx dJ1_charAt_3b067_8 ?_
  refine gq_sipush hC (255 : Int32) dJ1_charAt_3b067_9 (by decide) ?_
  refine gq_iand hC dJ1_charAt_3b067_12 ?_
  refine gq_i2c hC dJ1_charAt_3b067_13 ?_
  rw [hQ]
  exact gq_iret hC (pk_nc _) dJ1_charAt_3b067_14
set_option maxRecDepth 20000 in
theorem k_J0_charAt (l : Launch) (D : va_G) (T : List (ClassId × FieldType)) (z : Nat → Nat) (i : Nat) (hi : i < 3) (x : Int32) (hx : vp_in x (gq_tl.getD i 0)) : Mi l yJ0_charAt_5068e wsJ0_charAt_5068e (rmD 3) D T z [.ref (z (3 + i)), .int x] [] (gq_ch i x) [] 0 0 := by
  refine Mi.of (cc := cJ0_charAt_5068e) (maxL := 2) (by decide) rfl (Nat.le_of_ble_eq_true rfl) ⟨Nat.le_refl 0, Nat.le_refl 0⟩ ?_
  intro p e s m args below meth c A hC ha
  obtain ⟨Q, hQ⟩ : ∃ Q, Q = gq_Qi below D A args s (gq_ch i x) [] 0 0 := ⟨_, rfl⟩
  rw [← hQ]
  refine gq_loc [(0, .ref (z (3 + i))), (1, .int x)] rfl ?_
  have hE := hC.2.2.2.2.2.2.2.2.2.2.2.2.2.2.2
  refine gq_aload_n hC 0 dJ0_charAt_5068e_0 rfl rfl ?_
  refine gq_callRi hC [] [] [] [] (k_J0_isLatin1 l D T z i hi) gJ0_charAt_5068e_J0_isLatin1_aae02 rfl ⟨rfl, rfl⟩ hy_J0_isLatin1 ⟨Nat.le_of_ble_eq_true rfl, Nat.le_of_ble_eq_true rfl⟩ rfl rfl rfl (fun _ _ hS => vk_recv (i := i) (adK := fun j => z (3 + j)) hE.1 hi hS) (Nat.le_of_ble_eq_true rfl) rfl dJ0_charAt_5068e_1 rfl rfl ?_
  refine gq_if_eq hC 16 dJ0_charAt_5068e_4 (by decide) (fun h => absurd h (by decide)) (fun h => ?_)
  refine gq_aload_n hC 0 dJ0_charAt_5068e_7 rfl rfl ?_
  refine gq_getO hC (hE.1.1 i hi).2.2.1 (by decide +kernel) dJ0_charAt_5068e_8 ?_
  refine gq_iload_n hC 1 dJ0_charAt_5068e_11 rfl rfl ?_
  refine gq_callWi hC [] [] [.ref (z (6 + i)), .int x] [] (k_J1_charAt l D T z i hi x hx) gJ0_charAt_5068e_J1_charAt_3b067 rfl ⟨rfl, rfl⟩ hy_J1_charAt ⟨Nat.le_of_ble_eq_true rfl, Nat.le_of_ble_eq_true rfl⟩ rfl rfl rfl (Nat.le_of_ble_eq_true rfl) rfl dJ0_charAt_5068e_12 rfl rfl ?_
  rw [hQ]
  exact gq_iret hC (pk_nc _) dJ0_charAt_5068e_15
