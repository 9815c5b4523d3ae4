/-! ===== the law's wrappers: rows ===== -/
set_option maxRecDepth 100000 in
theorem ggL_append_X10_append : GoodIn wsL_append wsX10_append := goodIn_ca (goodIn_r _ [6, 7, 8, 9, 10, 11, 12, 13, 14, 15, 16, 17, 18, 19, 20, 21, 22, 23, 24, 25, 26, 27, 28, 29, 30, 31, 32, 33, 34, 35, 36] rfl (by decide +kernel)) (goodIn_sub (fun _ h => List.mem_cons_of_mem _ (List.mem_append_right _ h)) (by decide +kernel))
set_option maxRecDepth 100000 in
theorem gL_append_X10_append : GoodIn wsL_append (wsV RL 7 RX10 yX10_append wsX10_append) := goodIn_app (goodIn_of _ (by decide +kernel)) ggL_append_X10_append
theorem dL_append_0 : decode cL_append 0 = .ok (.aload 6, 2) := by decide +kernel
theorem dL_append_2 : decode cL_append 2 = .ok (.iconst 0, 1) := by decide +kernel
theorem dL_append_3 : decode cL_append 3 = .ok (.aload_n 0, 1) := by decide +kernel
theorem dL_append_4 : decode cL_append 4 = .ok (.iload_n 1, 1) := by decide +kernel
theorem dL_append_5 : decode cL_append 5 = .ok (.iload_n 2, 1) := by decide +kernel
theorem dL_append_6 : decode cL_append 6 = .ok (.iload_n 3, 1) := by decide +kernel
theorem dL_append_7 : decode cL_append 7 = .ok (.iload 4, 2) := by decide +kernel
theorem dL_append_9 : decode cL_append 9 = .ok (.iload 5, 2) := by decide +kernel
theorem dL_append_11 : decode cL_append 11 = .ok (.invokevirtual 7, 3) := by decide +kernel
theorem dL_append_14 : decode cL_append 14 = .ok (.i2l, 1) := by decide +kernel
theorem dL_append_15 : decode cL_append 15 = .ok (.lastore, 1) := by decide +kernel
theorem dL_append_16 : decode cL_append 16 = .ok (.goto 7, 3) := by decide +kernel
theorem dL_append_19 : decode cL_append 19 = .ok (.astore 7, 2) := by decide +kernel
theorem dL_append_21 : decode cL_append 21 = .ok (.iconst 1, 1) := by decide +kernel
theorem dL_append_22 : decode cL_append 22 = .ok (.ireturn, 1) := by decide +kernel
theorem dL_append_23 : decode cL_append 23 = .ok (.iconst 0, 1) := by decide +kernel
theorem dL_append_24 : decode cL_append 24 = .ok (.ireturn, 1) := by decide +kernel
set_option maxRecDepth 100000 in
theorem ggL_load_X10_load : GoodIn wsL_load wsX10_load := goodIn_ca (goodIn_r _ [6, 7, 8, 9, 10, 11, 12, 13, 14, 15, 16, 17, 18, 19, 20, 21, 22, 23, 24, 25, 26, 27, 28, 29, 30, 31, 32, 33, 34, 35, 36, 37, 38, 39, 40, 41, 42, 43, 44, 45, 46, 47, 48, 49, 50, 51, 52, 53, 54, 55, 56, 57, 58, 59, 60, 61, 62, 63, 64, 65, 66, 67, 68, 69, 70, 71, 72, 73, 74, 75, 76, 77, 78, 79, 80, 81, 82, 83, 84, 85, 86, 87, 88, 89, 90, 91, 92, 93, 94, 95, 96, 97, 98, 99, 100, 101, 102, 103, 104, 105, 106, 107, 108, 109, 110, 111, 112, 113, 114, 115, 116, 117, 118, 119, 120, 121, 122, 123, 124, 125, 126, 127, 128, 129, 130, 131, 132, 133, 134, 135, 136, 137, 138, 139, 140, 141, 142, 143, 144, 145, 146, 147, 148, 5, 149, 150, 151, 152, 153, 154, 155, 156, 157, 158, 159, 160, 161, 162, 163, 164, 165, 166, 167, 168, 169, 170, 171, 172, 173, 174, 175, 176, 177, 178, 179, 180, 181, 182, 183, 184, 185, 186, 187, 188, 189, 190, 191, 192, 193, 194, 195, 196, 197, 198, 199, 200, 201, 202, 203, 204, 205, 206, 207, 208, 209, 210, 211, 212, 213, 214, 215, 216, 217, 218, 219, 220, 221, 222, 223, 224, 225, 226] rfl (by decide +kernel)) (goodIn_sub (fun _ h => List.mem_cons_of_mem _ (List.mem_append_right _ h)) (by decide +kernel))
set_option maxRecDepth 100000 in
theorem gL_load_X10_load : GoodIn wsL_load (wsV RL 15 RX10 yX10_load wsX10_load) := goodIn_app (goodIn_of _ (by decide +kernel)) ggL_load_X10_load
theorem dL_load_0 : decode cL_load 0 = .ok (.aload_n 2, 1) := by decide +kernel
theorem dL_load_1 : decode cL_load 1 = .ok (.iconst 0, 1) := by decide +kernel
theorem dL_load_2 : decode cL_load 2 = .ok (.aload_n 0, 1) := by decide +kernel
theorem dL_load_3 : decode cL_load 3 = .ok (.iload_n 1, 1) := by decide +kernel
theorem dL_load_4 : decode cL_load 4 = .ok (.invokevirtual 15, 3) := by decide +kernel
theorem dL_load_7 : decode cL_load 7 = .ok (.i2l, 1) := by decide +kernel
theorem dL_load_8 : decode cL_load 8 = .ok (.lastore, 1) := by decide +kernel
theorem dL_load_9 : decode cL_load 9 = .ok (.goto 6, 3) := by decide +kernel
theorem dL_load_12 : decode cL_load 12 = .ok (.astore_n 3, 1) := by decide +kernel
theorem dL_load_13 : decode cL_load 13 = .ok (.iconst 1, 1) := by decide +kernel
theorem dL_load_14 : decode cL_load 14 = .ok (.ireturn, 1) := by decide +kernel
theorem dL_load_15 : decode cL_load 15 = .ok (.iconst 0, 1) := by decide +kernel
theorem dL_load_16 : decode cL_load 16 = .ok (.ireturn, 1) := by decide +kernel
set_option maxRecDepth 100000 in
theorem ggL_count_X10_count : GoodIn wsL_count wsX10_count := goodIn_ca (goodIn_r _ [6, 7, 8, 9, 10, 11, 12, 13, 14, 15, 16, 17, 18, 19, 20, 21, 22, 23, 24, 25, 26, 27, 28, 29, 30, 31, 32, 33, 34, 35, 36, 37, 38, 39, 40, 41, 42, 43, 44, 45, 46, 47, 48, 49, 50, 51, 52, 53, 54, 55, 56, 57, 58, 59, 60, 61, 62, 63, 64, 65, 66, 67, 68, 69, 70, 71, 72, 73] rfl (by decide +kernel)) (goodIn_sub (fun _ h => List.mem_cons_of_mem _ (List.mem_append_right _ h)) (by decide +kernel))
set_option maxRecDepth 100000 in
theorem gL_count_X10_count : GoodIn wsL_count (wsV RL 21 RX10 yX10_count wsX10_count) := goodIn_app (goodIn_of _ (by decide +kernel)) ggL_count_X10_count
theorem dL_count_0 : decode cL_count 0 = .ok (.aload_n 2, 1) := by decide +kernel
theorem dL_count_1 : decode cL_count 1 = .ok (.iconst 0, 1) := by decide +kernel
theorem dL_count_2 : decode cL_count 2 = .ok (.aload_n 0, 1) := by decide +kernel
theorem dL_count_3 : decode cL_count 3 = .ok (.iload_n 1, 1) := by decide +kernel
theorem dL_count_4 : decode cL_count 4 = .ok (.invokevirtual 21, 3) := by decide +kernel
theorem dL_count_7 : decode cL_count 7 = .ok (.i2l, 1) := by decide +kernel
theorem dL_count_8 : decode cL_count 8 = .ok (.lastore, 1) := by decide +kernel
theorem dL_count_9 : decode cL_count 9 = .ok (.goto 6, 3) := by decide +kernel
theorem dL_count_12 : decode cL_count 12 = .ok (.astore_n 3, 1) := by decide +kernel
theorem dL_count_13 : decode cL_count 13 = .ok (.iconst 1, 1) := by decide +kernel
theorem dL_count_14 : decode cL_count 14 = .ok (.ireturn, 1) := by decide +kernel
theorem dL_count_15 : decode cL_count 15 = .ok (.iconst 0, 1) := by decide +kernel
theorem dL_count_16 : decode cL_count 16 = .ok (.ireturn, 1) := by decide +kernel
set_option maxRecDepth 100000 in
theorem ggL_setting_X10_setting : GoodIn wsL_setting wsX10_setting := goodIn_ca (goodIn_r _ [6, 7, 8, 9, 10, 11, 5, 12, 13, 14, 15, 16, 17, 18, 19, 20, 21, 22, 23, 24, 25, 26] rfl (by decide +kernel)) (goodIn_sub (fun _ h => List.mem_cons_of_mem _ (List.mem_append_right _ h)) (by decide +kernel))
set_option maxRecDepth 100000 in
theorem gL_setting_X10_setting : GoodIn wsL_setting (wsV RL 24 RX10 yX10_setting wsX10_setting) := goodIn_app (goodIn_of _ (by decide +kernel)) ggL_setting_X10_setting
theorem dL_setting_0 : decode cL_setting 0 = .ok (.aload_n 2, 1) := by decide +kernel
theorem dL_setting_1 : decode cL_setting 1 = .ok (.iconst 0, 1) := by decide +kernel
theorem dL_setting_2 : decode cL_setting 2 = .ok (.aload_n 0, 1) := by decide +kernel
theorem dL_setting_3 : decode cL_setting 3 = .ok (.iload_n 1, 1) := by decide +kernel
theorem dL_setting_4 : decode cL_setting 4 = .ok (.invokevirtual 24, 3) := by decide +kernel
theorem dL_setting_7 : decode cL_setting 7 = .ok (.i2l, 1) := by decide +kernel
theorem dL_setting_8 : decode cL_setting 8 = .ok (.lastore, 1) := by decide +kernel
theorem dL_setting_9 : decode cL_setting 9 = .ok (.goto 6, 3) := by decide +kernel
theorem dL_setting_12 : decode cL_setting 12 = .ok (.astore_n 3, 1) := by decide +kernel
theorem dL_setting_13 : decode cL_setting 13 = .ok (.iconst 1, 1) := by decide +kernel
theorem dL_setting_14 : decode cL_setting 14 = .ok (.ireturn, 1) := by decide +kernel
theorem dL_setting_15 : decode cL_setting 15 = .ok (.iconst 0, 1) := by decide +kernel
theorem dL_setting_16 : decode cL_setting 16 = .ok (.ireturn, 1) := by decide +kernel
set_option maxRecDepth 100000 in
theorem ggL_set_X10_set : GoodIn wsL_set wsX10_set := goodIn_ca (goodIn_ca (goodIn_r _ [7, 8, 9, 10, 11, 12, 13, 14, 6, 15, 16, 17, 18, 19, 20, 21, 22, 23, 24, 25, 26, 27, 28, 29, 30, 31, 32, 33, 34, 35, 36, 37, 38, 39, 40, 41, 42, 43, 44, 45, 46, 47, 48, 49, 50, 51, 52, 53, 54, 55, 56, 57, 58, 59, 60, 61, 62, 63, 64, 65, 66, 67, 68, 69, 70, 71, 72, 73, 74, 75, 76, 77, 78, 79, 80, 81, 82, 83, 84, 85, 86, 87, 88, 89, 90, 91, 92, 93, 94, 95, 96, 97, 98, 99, 100, 101, 102, 103, 104, 105, 106, 107, 108, 109, 110, 111, 112, 113, 114, 115, 116, 117, 118, 119] rfl (by decide +kernel)) (goodIn_sub (fun _ h => List.mem_cons_of_mem _ (List.mem_append_left _ (List.mem_append_right _ h))) (by decide +kernel))) (goodIn_sub (fun _ h => List.mem_cons_of_mem _ (List.mem_append_right _ h)) (by decide +kernel))
set_option maxRecDepth 100000 in
theorem gL_set_X10_set : GoodIn wsL_set (wsV RL 29 RX10 yX10_set wsX10_set) := goodIn_app (goodIn_of _ (by decide +kernel)) ggL_set_X10_set
theorem dL_set_0 : decode cL_set 0 = .ok (.aload_n 3, 1) := by decide +kernel
theorem dL_set_1 : decode cL_set 1 = .ok (.iconst 0, 1) := by decide +kernel
theorem dL_set_2 : decode cL_set 2 = .ok (.aload_n 0, 1) := by decide +kernel
theorem dL_set_3 : decode cL_set 3 = .ok (.iload_n 1, 1) := by decide +kernel
theorem dL_set_4 : decode cL_set 4 = .ok (.iload_n 2, 1) := by decide +kernel
theorem dL_set_5 : decode cL_set 5 = .ok (.invokevirtual 29, 3) := by decide +kernel
theorem dL_set_8 : decode cL_set 8 = .ok (.i2l, 1) := by decide +kernel
theorem dL_set_9 : decode cL_set 9 = .ok (.lastore, 1) := by decide +kernel
theorem dL_set_10 : decode cL_set 10 = .ok (.goto 11, 3) := by decide +kernel
theorem dL_set_13 : decode cL_set 13 = .ok (.astore 4, 2) := by decide +kernel
theorem dL_set_15 : decode cL_set 15 = .ok (.iconst 1, 1) := by decide +kernel
theorem dL_set_16 : decode cL_set 16 = .ok (.ireturn, 1) := by decide +kernel
theorem dL_set_17 : decode cL_set 17 = .ok (.astore 4, 2) := by decide +kernel
theorem dL_set_19 : decode cL_set 19 = .ok (.iconst 2, 1) := by decide +kernel
theorem dL_set_20 : decode cL_set 20 = .ok (.ireturn, 1) := by decide +kernel
theorem dL_set_21 : decode cL_set 21 = .ok (.iconst 0, 1) := by decide +kernel
theorem dL_set_22 : decode cL_set 22 = .ok (.ireturn, 1) := by decide +kernel
set_option maxRecDepth 100000 in
theorem ggL_segment_X10_segment : GoodIn wsL_segment wsX10_segment := goodIn_ca (goodIn_ca (goodIn_r _ [7, 8, 9, 10, 11, 12, 13, 14, 15, 6, 16, 17, 18, 19, 20, 21, 22, 23, 24, 25, 26, 27, 28, 29, 30, 31, 32, 33, 34, 35, 36, 37, 38, 39, 40, 41, 42, 43, 44, 45, 46, 47, 48, 49, 50, 51, 52, 53, 54, 55, 56, 57, 58, 59, 60, 61, 62, 63, 64, 65, 66, 67, 68, 69, 70, 71, 72, 73, 74, 75, 76, 77, 78, 79, 80, 81, 82, 83, 84, 85, 86, 87, 88, 89, 90, 91, 92, 93, 94, 95, 96, 97, 98, 99, 100, 101, 102, 103, 104, 105, 106, 107, 108, 109, 110, 111, 112, 113, 114, 115, 116, 117, 118, 119, 120, 121, 122, 123, 124, 125, 126, 127, 128, 129, 130, 131, 132, 133, 134, 135, 136, 137, 138, 139, 140, 141, 142, 143, 144, 145, 146, 147, 148, 149, 150, 151, 152, 153, 154, 155, 156, 157, 158, 159, 160, 161, 162, 163, 164, 165, 166, 167, 168, 169, 170, 171, 172, 173, 174, 175, 176, 177, 178, 179, 180, 181, 182, 183, 184, 185, 186, 187, 188, 189, 190, 191, 192, 193, 194, 195, 196, 197, 198, 199, 200, 201, 202, 203, 204, 205, 206, 207, 208, 209, 210, 211, 212, 213, 214, 215, 216, 217, 218, 219, 220, 221, 222, 223, 224, 225, 226, 227, 228, 229, 230, 231, 232, 233, 234, 235, 236, 237, 238, 239, 240, 241, 242] rfl (by decide +kernel)) (goodIn_sub (fun _ h => List.mem_cons_of_mem _ (List.mem_append_left _ (List.mem_append_right _ h))) (by decide +kernel))) (goodIn_sub (fun _ h => List.mem_cons_of_mem _ (List.mem_append_right _ h)) (by decide +kernel))
set_option maxRecDepth 100000 in
theorem gL_segment_X10_segment : GoodIn wsL_segment (wsV RL 33 RX10 yX10_segment wsX10_segment) := goodIn_app (goodIn_of _ (by decide +kernel)) ggL_segment_X10_segment
theorem dL_segment_0 : decode cL_segment 0 = .ok (.aload_n 3, 1) := by decide +kernel
theorem dL_segment_1 : decode cL_segment 1 = .ok (.iconst 0, 1) := by decide +kernel
theorem dL_segment_2 : decode cL_segment 2 = .ok (.aload_n 0, 1) := by decide +kernel
theorem dL_segment_3 : decode cL_segment 3 = .ok (.iload_n 1, 1) := by decide +kernel
theorem dL_segment_4 : decode cL_segment 4 = .ok (.iload_n 2, 1) := by decide +kernel
theorem dL_segment_5 : decode cL_segment 5 = .ok (.invokevirtual 33, 3) := by decide +kernel
theorem dL_segment_8 : decode cL_segment 8 = .ok (.i2l, 1) := by decide +kernel
theorem dL_segment_9 : decode cL_segment 9 = .ok (.lastore, 1) := by decide +kernel
theorem dL_segment_10 : decode cL_segment 10 = .ok (.goto 11, 3) := by decide +kernel
theorem dL_segment_13 : decode cL_segment 13 = .ok (.astore 4, 2) := by decide +kernel
theorem dL_segment_15 : decode cL_segment 15 = .ok (.iconst 1, 1) := by decide +kernel
theorem dL_segment_16 : decode cL_segment 16 = .ok (.ireturn, 1) := by decide +kernel
theorem dL_segment_17 : decode cL_segment 17 = .ok (.astore 4, 2) := by decide +kernel
theorem dL_segment_19 : decode cL_segment 19 = .ok (.iconst 2, 1) := by decide +kernel
theorem dL_segment_20 : decode cL_segment 20 = .ok (.ireturn, 1) := by decide +kernel
theorem dL_segment_21 : decode cL_segment 21 = .ok (.iconst 0, 1) := by decide +kernel
theorem dL_segment_22 : decode cL_segment 22 = .ok (.ireturn, 1) := by decide +kernel
set_option maxRecDepth 100000 in
theorem ggL_wordOf_X10_wordOf : GoodIn wsL_wordOf wsX10_wordOf := goodIn_ca (goodIn_r _ [6, 7, 8, 9, 10, 11, 12, 13, 5, 14, 15, 16, 17, 18, 19, 20, 21, 22, 23, 24, 25, 26, 27, 28, 29, 30, 31, 32, 33, 34, 35, 36, 37, 38, 39, 40, 41, 42, 43, 44, 45, 46, 47] rfl (by decide +kernel)) (goodIn_sub (fun _ h => List.mem_cons_of_mem _ (List.mem_append_right _ h)) (by decide +kernel))
set_option maxRecDepth 100000 in
theorem gL_wordOf_X10_wordOf : GoodIn wsL_wordOf (wsV RL 36 RX10 yX10_wordOf wsX10_wordOf) := goodIn_app (goodIn_of _ (by decide +kernel)) ggL_wordOf_X10_wordOf
theorem dL_wordOf_0 : decode cL_wordOf 0 = .ok (.aload_n 3, 1) := by decide +kernel
theorem dL_wordOf_1 : decode cL_wordOf 1 = .ok (.iconst 0, 1) := by decide +kernel
theorem dL_wordOf_2 : decode cL_wordOf 2 = .ok (.aload_n 0, 1) := by decide +kernel
theorem dL_wordOf_3 : decode cL_wordOf 3 = .ok (.iload_n 1, 1) := by decide +kernel
theorem dL_wordOf_4 : decode cL_wordOf 4 = .ok (.iload_n 2, 1) := by decide +kernel
theorem dL_wordOf_5 : decode cL_wordOf 5 = .ok (.invokevirtual 36, 3) := by decide +kernel
theorem dL_wordOf_8 : decode cL_wordOf 8 = .ok (.i2l, 1) := by decide +kernel
theorem dL_wordOf_9 : decode cL_wordOf 9 = .ok (.lastore, 1) := by decide +kernel
theorem dL_wordOf_10 : decode cL_wordOf 10 = .ok (.goto 7, 3) := by decide +kernel
theorem dL_wordOf_13 : decode cL_wordOf 13 = .ok (.astore 4, 2) := by decide +kernel
theorem dL_wordOf_15 : decode cL_wordOf 15 = .ok (.iconst 1, 1) := by decide +kernel
theorem dL_wordOf_16 : decode cL_wordOf 16 = .ok (.ireturn, 1) := by decide +kernel
theorem dL_wordOf_17 : decode cL_wordOf 17 = .ok (.iconst 0, 1) := by decide +kernel
theorem dL_wordOf_18 : decode cL_wordOf 18 = .ok (.ireturn, 1) := by decide +kernel
set_option maxRecDepth 100000 in
theorem ggL_uses_X10_uses : GoodIn wsL_uses wsX10_uses := goodIn_ca (goodIn_ca (goodIn_r _ [7, 8, 9, 10, 11, 12, 13, 14, 6, 15, 16, 17, 18, 19, 20, 21, 22, 23, 24, 25, 26, 27, 28, 29, 30, 31, 32, 33, 34, 35, 36, 37, 38, 39, 40, 41, 42, 43, 44, 45, 46, 47, 48, 49, 50, 51, 52, 53, 54, 55, 56, 57, 58, 59] rfl (by decide +kernel)) (goodIn_sub (fun _ h => List.mem_cons_of_mem _ (List.mem_append_left _ (List.mem_append_right _ h))) (by decide +kernel))) (goodIn_sub (fun _ h => List.mem_cons_of_mem _ (List.mem_append_right _ h)) (by decide +kernel))
set_option maxRecDepth 100000 in
theorem gL_uses_X10_uses : GoodIn wsL_uses (wsV RL 39 RX10 yX10_uses wsX10_uses) := goodIn_app (goodIn_of _ (by decide +kernel)) ggL_uses_X10_uses
theorem dL_uses_0 : decode cL_uses 0 = .ok (.aload 4, 2) := by decide +kernel
theorem dL_uses_2 : decode cL_uses 2 = .ok (.iconst 0, 1) := by decide +kernel
theorem dL_uses_3 : decode cL_uses 3 = .ok (.aload_n 0, 1) := by decide +kernel
theorem dL_uses_4 : decode cL_uses 4 = .ok (.iload_n 1, 1) := by decide +kernel
theorem dL_uses_5 : decode cL_uses 5 = .ok (.iload_n 2, 1) := by decide +kernel
theorem dL_uses_6 : decode cL_uses 6 = .ok (.iload_n 3, 1) := by decide +kernel
theorem dL_uses_7 : decode cL_uses 7 = .ok (.invokevirtual 39, 3) := by decide +kernel
theorem dL_uses_10 : decode cL_uses 10 = .ok (.i2l, 1) := by decide +kernel
theorem dL_uses_11 : decode cL_uses 11 = .ok (.lastore, 1) := by decide +kernel
theorem dL_uses_12 : decode cL_uses 12 = .ok (.goto 11, 3) := by decide +kernel
theorem dL_uses_15 : decode cL_uses 15 = .ok (.astore 5, 2) := by decide +kernel
theorem dL_uses_17 : decode cL_uses 17 = .ok (.iconst 1, 1) := by decide +kernel
theorem dL_uses_18 : decode cL_uses 18 = .ok (.ireturn, 1) := by decide +kernel
theorem dL_uses_19 : decode cL_uses 19 = .ok (.astore 5, 2) := by decide +kernel
theorem dL_uses_21 : decode cL_uses 21 = .ok (.iconst 2, 1) := by decide +kernel
theorem dL_uses_22 : decode cL_uses 22 = .ok (.ireturn, 1) := by decide +kernel
theorem dL_uses_23 : decode cL_uses 23 = .ok (.iconst 0, 1) := by decide +kernel
theorem dL_uses_24 : decode cL_uses 24 = .ok (.ireturn, 1) := by decide +kernel
set_option maxRecDepth 100000 in
theorem ggL_setDuration_X10_setDuration : GoodIn wsL_setDuration wsX10_setDuration := goodIn_ca (goodIn_ca (goodIn_r _ [7, 8, 9, 10, 11, 12, 6, 13, 14, 15, 16, 17, 18, 19, 20, 21, 22, 23, 24, 25, 26, 27, 28, 29, 30, 31, 32, 33, 34, 35, 36, 37, 38, 39, 40, 41, 42, 43, 44, 45, 46, 47, 48, 49, 50, 51, 52, 53, 54, 55, 56, 57, 58, 59, 60, 61, 62, 63, 64, 65, 66, 67, 68, 69, 70, 71, 72, 73, 74, 75, 76, 77, 78, 79, 80, 81, 82, 83, 84, 85, 86, 87, 88, 89, 90, 91, 92, 93, 94, 95, 96, 97, 98, 99, 100, 101, 102, 103, 104, 105, 106, 107, 108, 109, 110, 111, 112, 113, 114, 115, 116, 117, 118, 119, 120, 121, 122, 123, 124, 125, 126] rfl (by decide +kernel)) (goodIn_sub (fun _ h => List.mem_cons_of_mem _ (List.mem_append_left _ (List.mem_append_right _ h))) (by decide +kernel))) (goodIn_sub (fun _ h => List.mem_cons_of_mem _ (List.mem_append_right _ h)) (by decide +kernel))
set_option maxRecDepth 100000 in
theorem gL_setDuration_X10_setDuration : GoodIn wsL_setDuration (wsV RL 43 RX10 yX10_setDuration wsX10_setDuration) := goodIn_app (goodIn_of _ (by decide +kernel)) ggL_setDuration_X10_setDuration
theorem dL_setDuration_0 : decode cL_setDuration 0 = .ok (.aload_n 3, 1) := by decide +kernel
theorem dL_setDuration_1 : decode cL_setDuration 1 = .ok (.iconst 0, 1) := by decide +kernel
theorem dL_setDuration_2 : decode cL_setDuration 2 = .ok (.aload_n 0, 1) := by decide +kernel
theorem dL_setDuration_3 : decode cL_setDuration 3 = .ok (.iload_n 1, 1) := by decide +kernel
theorem dL_setDuration_4 : decode cL_setDuration 4 = .ok (.iload_n 2, 1) := by decide +kernel
theorem dL_setDuration_5 : decode cL_setDuration 5 = .ok (.invokevirtual 43, 3) := by decide +kernel
theorem dL_setDuration_8 : decode cL_setDuration 8 = .ok (.i2l, 1) := by decide +kernel
theorem dL_setDuration_9 : decode cL_setDuration 9 = .ok (.lastore, 1) := by decide +kernel
theorem dL_setDuration_10 : decode cL_setDuration 10 = .ok (.goto 11, 3) := by decide +kernel
theorem dL_setDuration_13 : decode cL_setDuration 13 = .ok (.astore 4, 2) := by decide +kernel
theorem dL_setDuration_15 : decode cL_setDuration 15 = .ok (.iconst 1, 1) := by decide +kernel
theorem dL_setDuration_16 : decode cL_setDuration 16 = .ok (.ireturn, 1) := by decide +kernel
theorem dL_setDuration_17 : decode cL_setDuration 17 = .ok (.astore 4, 2) := by decide +kernel
theorem dL_setDuration_19 : decode cL_setDuration 19 = .ok (.iconst 2, 1) := by decide +kernel
theorem dL_setDuration_20 : decode cL_setDuration 20 = .ok (.ireturn, 1) := by decide +kernel
theorem dL_setDuration_21 : decode cL_setDuration 21 = .ok (.iconst 0, 1) := by decide +kernel
theorem dL_setDuration_22 : decode cL_setDuration 22 = .ok (.ireturn, 1) := by decide +kernel
set_option maxRecDepth 100000 in
theorem ggL_setPause_X10_setPause : GoodIn wsL_setPause wsX10_setPause := goodIn_ca (goodIn_ca (goodIn_r _ [7, 8, 9, 10, 11, 12, 6, 13, 14, 15, 16, 17, 18, 19, 20, 21, 22, 23, 24, 25, 26, 27, 28, 29, 30, 31, 32, 33, 34, 35, 36, 37, 38, 39, 40, 41, 42, 43, 44, 45, 46, 47, 48, 49, 50, 51, 52, 53, 54, 55, 56, 57, 58, 59, 60, 61, 62, 63, 64, 65, 66, 67, 68, 69, 70, 71, 72, 73, 74, 75, 76, 77, 78, 79, 80, 81, 82, 83, 84, 85, 86, 87, 88, 89, 90, 91, 92, 93, 94, 95, 96, 97, 98, 99, 100, 101, 102, 103, 104, 105, 106, 107, 108, 109, 110, 111, 112, 113, 114, 115, 116, 117, 118, 119, 120, 121, 122, 123, 124, 125, 126] rfl (by decide +kernel)) (goodIn_sub (fun _ h => List.mem_cons_of_mem _ (List.mem_append_left _ (List.mem_append_right _ h))) (by decide +kernel))) (goodIn_sub (fun _ h => List.mem_cons_of_mem _ (List.mem_append_right _ h)) (by decide +kernel))
set_option maxRecDepth 100000 in
theorem gL_setPause_X10_setPause : GoodIn wsL_setPause (wsV RL 46 RX10 yX10_setPause wsX10_setPause) := goodIn_app (goodIn_of _ (by decide +kernel)) ggL_setPause_X10_setPause
theorem dL_setPause_0 : decode cL_setPause 0 = .ok (.aload_n 3, 1) := by decide +kernel
theorem dL_setPause_1 : decode cL_setPause 1 = .ok (.iconst 0, 1) := by decide +kernel
theorem dL_setPause_2 : decode cL_setPause 2 = .ok (.aload_n 0, 1) := by decide +kernel
theorem dL_setPause_3 : decode cL_setPause 3 = .ok (.iload_n 1, 1) := by decide +kernel
theorem dL_setPause_4 : decode cL_setPause 4 = .ok (.iload_n 2, 1) := by decide +kernel
theorem dL_setPause_5 : decode cL_setPause 5 = .ok (.invokevirtual 46, 3) := by decide +kernel
theorem dL_setPause_8 : decode cL_setPause 8 = .ok (.i2l, 1) := by decide +kernel
theorem dL_setPause_9 : decode cL_setPause 9 = .ok (.lastore, 1) := by decide +kernel
theorem dL_setPause_10 : decode cL_setPause 10 = .ok (.goto 11, 3) := by decide +kernel
theorem dL_setPause_13 : decode cL_setPause 13 = .ok (.astore 4, 2) := by decide +kernel
theorem dL_setPause_15 : decode cL_setPause 15 = .ok (.iconst 1, 1) := by decide +kernel
theorem dL_setPause_16 : decode cL_setPause 16 = .ok (.ireturn, 1) := by decide +kernel
theorem dL_setPause_17 : decode cL_setPause 17 = .ok (.astore 4, 2) := by decide +kernel
theorem dL_setPause_19 : decode cL_setPause 19 = .ok (.iconst 2, 1) := by decide +kernel
theorem dL_setPause_20 : decode cL_setPause 20 = .ok (.ireturn, 1) := by decide +kernel
theorem dL_setPause_21 : decode cL_setPause 21 = .ok (.iconst 0, 1) := by decide +kernel
theorem dL_setPause_22 : decode cL_setPause 22 = .ok (.ireturn, 1) := by decide +kernel
set_option maxRecDepth 100000 in
theorem ggL_addWord_X10_addWord : GoodIn wsL_addWord wsX10_addWord := goodIn_ca (goodIn_ca (goodIn_r _ [7, 8, 9, 10, 11, 12, 13, 14, 6, 15, 16, 17, 18, 19, 20, 21, 22, 23, 24, 25, 26, 27, 28, 29, 30, 31, 32, 33, 34, 35, 36, 37, 38, 39, 40, 41, 42, 43, 44, 45, 46, 47, 48, 49, 50, 51, 52, 53, 54, 55, 56, 57, 58, 59, 60, 61, 62, 63, 64, 65, 66, 67, 68, 69, 70, 71, 72, 73, 74, 75, 76, 77, 78, 79, 80, 81, 82, 83, 84, 85, 86, 87, 88, 89, 90, 91, 92, 93, 94, 95, 96, 97, 98, 99, 100, 101, 102, 103, 104, 105, 106, 107, 108, 109, 110, 111, 112, 113, 114, 115, 116, 117, 118, 119, 120, 121, 122, 123, 124, 125, 126, 127] rfl (by decide +kernel)) (goodIn_sub (fun _ h => List.mem_cons_of_mem _ (List.mem_append_left _ (List.mem_append_right _ h))) (by decide +kernel))) (goodIn_sub (fun _ h => List.mem_cons_of_mem _ (List.mem_append_right _ h)) (by decide +kernel))
set_option maxRecDepth 100000 in
theorem gL_addWord_X10_addWord : GoodIn wsL_addWord (wsV RL 49 RX10 yX10_addWord wsX10_addWord) := goodIn_app (goodIn_of _ (by decide +kernel)) ggL_addWord_X10_addWord
theorem dL_addWord_0 : decode cL_addWord 0 = .ok (.aload_n 3, 1) := by decide +kernel
theorem dL_addWord_1 : decode cL_addWord 1 = .ok (.iconst 0, 1) := by decide +kernel
theorem dL_addWord_2 : decode cL_addWord 2 = .ok (.aload_n 0, 1) := by decide +kernel
theorem dL_addWord_3 : decode cL_addWord 3 = .ok (.iload_n 1, 1) := by decide +kernel
theorem dL_addWord_4 : decode cL_addWord 4 = .ok (.iload_n 2, 1) := by decide +kernel
theorem dL_addWord_5 : decode cL_addWord 5 = .ok (.invokevirtual 49, 3) := by decide +kernel
theorem dL_addWord_8 : decode cL_addWord 8 = .ok (.i2l, 1) := by decide +kernel
theorem dL_addWord_9 : decode cL_addWord 9 = .ok (.lastore, 1) := by decide +kernel
theorem dL_addWord_10 : decode cL_addWord 10 = .ok (.goto 11, 3) := by decide +kernel
theorem dL_addWord_13 : decode cL_addWord 13 = .ok (.astore 4, 2) := by decide +kernel
theorem dL_addWord_15 : decode cL_addWord 15 = .ok (.iconst 1, 1) := by decide +kernel
theorem dL_addWord_16 : decode cL_addWord 16 = .ok (.ireturn, 1) := by decide +kernel
theorem dL_addWord_17 : decode cL_addWord 17 = .ok (.astore 4, 2) := by decide +kernel
theorem dL_addWord_19 : decode cL_addWord 19 = .ok (.iconst 2, 1) := by decide +kernel
theorem dL_addWord_20 : decode cL_addWord 20 = .ok (.ireturn, 1) := by decide +kernel
theorem dL_addWord_21 : decode cL_addWord 21 = .ok (.iconst 0, 1) := by decide +kernel
theorem dL_addWord_22 : decode cL_addWord 22 = .ok (.ireturn, 1) := by decide +kernel
set_option maxRecDepth 100000 in
theorem ggL_removeSegment_X10_removeSegment : GoodIn wsL_removeSegment wsX10_removeSegment := goodIn_ca (goodIn_r _ [6, 7, 8, 9, 10, 11, 12, 5, 13, 14, 15, 16, 17, 18, 19, 20, 21, 22, 23, 24, 25, 26, 27, 28, 29, 30, 31, 32, 33, 34, 35, 36, 37, 38, 39, 40, 41, 42, 43, 44, 45, 46, 47, 48, 49, 50, 51, 52, 53, 54, 55, 56, 57, 58, 59, 60, 61, 62, 63, 64, 65, 66, 67, 68, 69, 70, 71, 72, 73, 74, 75, 76, 77, 78, 79, 80, 81, 82, 83, 84, 85, 86, 87, 88, 89, 90, 91, 92, 93, 94, 95, 96, 97, 98, 99, 100, 101, 102, 103, 104, 105, 106, 107, 108, 109, 110, 111, 112, 113, 114, 115] rfl (by decide +kernel)) (goodIn_sub (fun _ h => List.mem_cons_of_mem _ (List.mem_append_right _ h)) (by decide +kernel))
set_option maxRecDepth 100000 in
theorem gL_removeSegment_X10_removeSegment : GoodIn wsL_removeSegment (wsV RL 52 RX10 yX10_removeSegment wsX10_removeSegment) := goodIn_app (goodIn_of _ (by decide +kernel)) ggL_removeSegment_X10_removeSegment
theorem dL_removeSegment_0 : decode cL_removeSegment 0 = .ok (.aload_n 2, 1) := by decide +kernel
theorem dL_removeSegment_1 : decode cL_removeSegment 1 = .ok (.iconst 0, 1) := by decide +kernel
theorem dL_removeSegment_2 : decode cL_removeSegment 2 = .ok (.aload_n 0, 1) := by decide +kernel
theorem dL_removeSegment_3 : decode cL_removeSegment 3 = .ok (.iload_n 1, 1) := by decide +kernel
theorem dL_removeSegment_4 : decode cL_removeSegment 4 = .ok (.invokevirtual 52, 3) := by decide +kernel
theorem dL_removeSegment_7 : decode cL_removeSegment 7 = .ok (.i2l, 1) := by decide +kernel
theorem dL_removeSegment_8 : decode cL_removeSegment 8 = .ok (.lastore, 1) := by decide +kernel
theorem dL_removeSegment_9 : decode cL_removeSegment 9 = .ok (.goto 6, 3) := by decide +kernel
theorem dL_removeSegment_12 : decode cL_removeSegment 12 = .ok (.astore_n 3, 1) := by decide +kernel
theorem dL_removeSegment_13 : decode cL_removeSegment 13 = .ok (.iconst 1, 1) := by decide +kernel
theorem dL_removeSegment_14 : decode cL_removeSegment 14 = .ok (.ireturn, 1) := by decide +kernel
theorem dL_removeSegment_15 : decode cL_removeSegment 15 = .ok (.iconst 0, 1) := by decide +kernel
theorem dL_removeSegment_16 : decode cL_removeSegment 16 = .ok (.ireturn, 1) := by decide +kernel
set_option maxRecDepth 100000 in
theorem ggL_moveSegment_X10_moveSegment : GoodIn wsL_moveSegment wsX10_moveSegment := goodIn_ca (goodIn_r _ [6, 7, 8, 9, 10, 11, 5, 12, 13, 14, 15, 16, 17, 18, 19, 20, 21, 22, 23, 24, 25, 26, 27, 28, 29, 30, 31, 32, 33, 34, 35, 36, 37, 38, 39, 40, 41, 42, 43, 44, 45, 46, 47, 48, 49, 50, 51, 52, 53, 54, 55, 56, 57, 58, 59, 60, 61, 62, 63, 64, 65, 66, 67, 68, 69, 70, 71, 72, 73, 74, 75, 76, 77, 78, 79, 80, 81, 82, 83, 84, 85, 86, 87, 88, 89, 90, 91, 92, 93, 94, 95, 96, 97, 98, 99, 100, 101, 102, 103, 104, 105, 106, 107, 108, 109, 110, 111, 112, 113, 114, 115, 116, 117, 118, 119, 120, 121, 122, 123] rfl (by decide +kernel)) (goodIn_sub (fun _ h => List.mem_cons_of_mem _ (List.mem_append_right _ h)) (by decide +kernel))
set_option maxRecDepth 100000 in
theorem gL_moveSegment_X10_moveSegment : GoodIn wsL_moveSegment (wsV RL 55 RX10 yX10_moveSegment wsX10_moveSegment) := goodIn_app (goodIn_of _ (by decide +kernel)) ggL_moveSegment_X10_moveSegment
theorem dL_moveSegment_0 : decode cL_moveSegment 0 = .ok (.aload_n 3, 1) := by decide +kernel
theorem dL_moveSegment_1 : decode cL_moveSegment 1 = .ok (.iconst 0, 1) := by decide +kernel
theorem dL_moveSegment_2 : decode cL_moveSegment 2 = .ok (.aload_n 0, 1) := by decide +kernel
theorem dL_moveSegment_3 : decode cL_moveSegment 3 = .ok (.iload_n 1, 1) := by decide +kernel
theorem dL_moveSegment_4 : decode cL_moveSegment 4 = .ok (.iload_n 2, 1) := by decide +kernel
theorem dL_moveSegment_5 : decode cL_moveSegment 5 = .ok (.invokevirtual 55, 3) := by decide +kernel
theorem dL_moveSegment_8 : decode cL_moveSegment 8 = .ok (.i2l, 1) := by decide +kernel
theorem dL_moveSegment_9 : decode cL_moveSegment 9 = .ok (.lastore, 1) := by decide +kernel
theorem dL_moveSegment_10 : decode cL_moveSegment 10 = .ok (.goto 7, 3) := by decide +kernel
theorem dL_moveSegment_13 : decode cL_moveSegment 13 = .ok (.astore 4, 2) := by decide +kernel
theorem dL_moveSegment_15 : decode cL_moveSegment 15 = .ok (.iconst 1, 1) := by decide +kernel
theorem dL_moveSegment_16 : decode cL_moveSegment 16 = .ok (.ireturn, 1) := by decide +kernel
theorem dL_moveSegment_17 : decode cL_moveSegment 17 = .ok (.iconst 0, 1) := by decide +kernel
theorem dL_moveSegment_18 : decode cL_moveSegment 18 = .ok (.ireturn, 1) := by decide +kernel
set_option maxRecDepth 100000 in
theorem ggL_change_X10_change : GoodIn wsL_change wsX10_change := goodIn_ca (goodIn_r _ [6, 7, 8, 9, 10, 11, 5, 12, 13, 14, 15, 16, 17, 18, 19, 20, 21, 22, 23, 24, 25, 26, 27, 28, 29, 30, 31, 32, 33, 34, 35, 36, 37, 38, 39, 40, 41, 42, 43, 44, 45, 46, 47, 48, 49, 50, 51, 52, 53, 54, 55, 56, 57, 58, 59, 60, 61, 62, 63, 64, 65, 66, 67, 68, 69, 70, 71, 72, 73, 74, 75, 76, 77, 78, 79, 80, 81, 82, 83, 84, 85, 86, 87, 88, 89, 90, 91, 92, 93, 94, 95, 96, 97, 98, 99, 100, 101, 102, 103, 104, 105, 106, 107, 108, 109, 110, 111, 112, 113, 114, 115, 116, 117, 118, 119, 120, 121, 122, 123, 124, 125, 126, 127, 128, 129, 130, 131, 132, 133, 134, 135, 136, 137, 138, 139, 140, 141, 142, 143, 144, 145, 146, 147, 148, 149, 150, 151, 152, 153, 154, 155, 156, 157, 158, 159, 160, 161, 162, 163, 164, 165, 166, 167, 168, 169, 170, 171, 172, 173, 174, 175, 176, 177, 178, 179, 180, 181, 182, 183, 184, 185, 186, 187, 188, 189, 190, 191, 192, 193, 194, 195, 196, 197, 198, 199, 200, 201, 202, 203, 204, 205, 206, 207, 208, 209, 210, 211, 212, 213, 214, 215, 216, 217, 218, 219, 220, 221, 222, 223, 224, 225, 226] rfl (by decide +kernel)) (goodIn_sub (fun _ h => List.mem_cons_of_mem _ (List.mem_append_right _ h)) (by decide +kernel))
set_option maxRecDepth 100000 in
theorem gL_change_X10_change : GoodIn wsL_change (wsV RL 58 RX10 yX10_change wsX10_change) := goodIn_app (goodIn_of _ (by decide +kernel)) ggL_change_X10_change
theorem dL_change_0 : decode cL_change 0 = .ok (.aload_n 2, 1) := by decide +kernel
theorem dL_change_1 : decode cL_change 1 = .ok (.iconst 0, 1) := by decide +kernel
theorem dL_change_2 : decode cL_change 2 = .ok (.aload_n 0, 1) := by decide +kernel
theorem dL_change_3 : decode cL_change 3 = .ok (.iload_n 1, 1) := by decide +kernel
theorem dL_change_4 : decode cL_change 4 = .ok (.invokevirtual 58, 3) := by decide +kernel
theorem dL_change_7 : decode cL_change 7 = .ok (.i2l, 1) := by decide +kernel
theorem dL_change_8 : decode cL_change 8 = .ok (.lastore, 1) := by decide +kernel
theorem dL_change_9 : decode cL_change 9 = .ok (.goto 6, 3) := by decide +kernel
theorem dL_change_12 : decode cL_change 12 = .ok (.astore_n 3, 1) := by decide +kernel
theorem dL_change_13 : decode cL_change 13 = .ok (.iconst 1, 1) := by decide +kernel
theorem dL_change_14 : decode cL_change 14 = .ok (.ireturn, 1) := by decide +kernel
theorem dL_change_15 : decode cL_change 15 = .ok (.iconst 0, 1) := by decide +kernel
theorem dL_change_16 : decode cL_change 16 = .ok (.ireturn, 1) := by decide +kernel
set_option maxRecDepth 100000 in
theorem ggL_worth_X10_worth : GoodIn wsL_worth wsX10_worth := goodIn_ca (goodIn_r _ [6, 7, 8, 9, 10, 11, 5, 12, 13, 14, 15, 16, 17, 18, 19, 20, 21, 22, 23, 24, 25, 26, 27, 28, 29, 30, 31, 32, 33, 34, 35, 36, 37, 38, 39, 40, 41, 42, 43, 44, 45, 46, 47, 48, 49, 50, 51, 52, 53, 54, 55, 56, 57, 58, 59, 60, 61, 62, 63, 64, 65, 66, 67, 68, 69, 70, 71, 72, 73, 74, 75, 76, 77, 78, 79, 80, 81, 82, 83, 84, 85, 86, 87, 88, 89, 90, 91, 92, 93, 94, 95, 96, 97, 98, 99, 100, 101, 102, 103, 104, 105, 106, 107, 108, 109, 110, 111, 112, 113, 114, 115, 116, 117, 118, 119, 120, 121, 122, 123, 124, 125, 126, 127, 128, 129, 130, 131, 132, 133, 134, 135, 136, 137, 138, 139, 140, 141, 142, 143, 144, 145, 146, 147, 148, 149, 150, 151, 152, 153, 154, 155, 156, 157, 158, 159, 160, 161, 162, 163, 164, 165, 166, 167, 168, 169, 170, 171, 172, 173, 174, 175, 176, 177, 178, 179, 180, 181, 182, 183, 184, 185, 186, 187, 188, 189, 190, 191, 192, 193, 194, 195, 196, 197, 198, 199, 200, 201, 202, 203, 204, 205, 206, 207, 208, 209, 210, 211, 212, 213, 214, 215, 216, 217, 218, 219, 220, 221, 222, 223, 224, 225, 226] rfl (by decide +kernel)) (goodIn_sub (fun _ h => List.mem_cons_of_mem _ (List.mem_append_right _ h)) (by decide +kernel))
set_option maxRecDepth 100000 in
theorem gL_worth_X10_worth : GoodIn wsL_worth (wsV RL 61 RX10 yX10_worth wsX10_worth) := goodIn_app (goodIn_of _ (by decide +kernel)) ggL_worth_X10_worth
theorem dL_worth_0 : decode cL_worth 0 = .ok (.aload_n 1, 1) := by decide +kernel
theorem dL_worth_1 : decode cL_worth 1 = .ok (.iconst 0, 1) := by decide +kernel
theorem dL_worth_2 : decode cL_worth 2 = .ok (.aload_n 0, 1) := by decide +kernel
theorem dL_worth_3 : decode cL_worth 3 = .ok (.invokevirtual 61, 3) := by decide +kernel
theorem dL_worth_6 : decode cL_worth 6 = .ok (.i2l, 1) := by decide +kernel
theorem dL_worth_7 : decode cL_worth 7 = .ok (.lastore, 1) := by decide +kernel
theorem dL_worth_8 : decode cL_worth 8 = .ok (.goto 6, 3) := by decide +kernel
theorem dL_worth_11 : decode cL_worth 11 = .ok (.astore_n 2, 1) := by decide +kernel
theorem dL_worth_12 : decode cL_worth 12 = .ok (.iconst 1, 1) := by decide +kernel
theorem dL_worth_13 : decode cL_worth 13 = .ok (.ireturn, 1) := by decide +kernel
theorem dL_worth_14 : decode cL_worth 14 = .ok (.iconst 0, 1) := by decide +kernel
theorem dL_worth_15 : decode cL_worth 15 = .ok (.ireturn, 1) := by decide +kernel
set_option maxRecDepth 100000 in
theorem ggL_chapter_X10_chapter : GoodIn wsL_chapter wsX10_chapter := goodIn_ca (goodIn_ca (goodIn_ca (goodIn_r _ [8, 9, 10, 11, 12, 13, 14, 15, 16, 17, 18, 7, 19, 20, 21, 22, 23, 24, 25, 26, 27, 28, 29, 30, 31, 32, 33, 34, 35, 36, 37, 38, 39, 40, 41, 42, 43, 44, 45, 46, 47, 48, 49, 50, 51, 52, 53, 54, 55, 56, 57, 58, 59, 60, 61, 62, 63, 64, 65, 66, 67, 68, 69, 70, 71, 72, 73, 74, 75, 76, 77, 78, 79, 80, 81, 82, 83, 84, 85, 86, 87, 88, 89, 90, 91, 92, 93, 94, 95, 96, 97, 98, 99, 100, 101, 102, 103, 104, 105, 106, 107, 108, 109, 110, 111, 112, 113, 114, 115, 116, 117, 118, 119, 120, 121, 122, 123, 124, 125, 126, 127, 128, 129, 130, 131, 132, 133, 134, 135, 136, 137, 138, 139, 140, 141, 142, 143, 144, 145, 146, 147, 148, 149, 150, 151, 152, 153, 154, 155, 156, 157, 158, 159, 160, 161, 162, 163, 164, 165, 166, 167, 168, 169, 170, 171, 172, 173, 174, 175, 176, 177, 178, 179, 180, 181, 182, 183, 184, 185, 186, 187, 188, 189, 190, 191, 192, 193, 194, 195, 196, 197, 198, 199, 200, 201, 202, 203, 204, 205, 206, 207, 208, 209, 210, 211, 212, 213, 214, 215, 216, 217, 218, 219, 220, 221, 222, 223, 224, 225, 226, 227, 228, 229, 230, 231, 232, 233, 234, 235, 236, 237, 238, 239, 240, 241, 242, 243, 244, 245, 246, 247, 248, 249, 250, 251, 252, 253, 254, 255, 256] rfl (by decide +kernel)) (goodIn_sub (fun _ h => List.mem_cons_of_mem _ (List.mem_append_left _ (List.mem_append_left _ (List.mem_append_right _ h)))) (by decide +kernel))) (goodIn_sub (fun _ h => List.mem_cons_of_mem _ (List.mem_append_left _ (List.mem_append_right _ h))) (by decide +kernel))) (goodIn_sub (fun _ h => List.mem_cons_of_mem _ (List.mem_append_right _ h)) (by decide +kernel))
set_option maxRecDepth 100000 in
theorem gL_chapter_X10_chapter : GoodIn wsL_chapter (wsV RL 67 RX10 yX10_chapter wsX10_chapter) := goodIn_app (goodIn_of _ (by decide +kernel)) ggL_chapter_X10_chapter
theorem dL_chapter_0 : decode cL_chapter 0 = .ok (.aload_n 3, 1) := by decide +kernel
theorem dL_chapter_1 : decode cL_chapter 1 = .ok (.iconst 0, 1) := by decide +kernel
theorem dL_chapter_2 : decode cL_chapter 2 = .ok (.aload_n 0, 1) := by decide +kernel
theorem dL_chapter_3 : decode cL_chapter 3 = .ok (.iload_n 1, 1) := by decide +kernel
theorem dL_chapter_4 : decode cL_chapter 4 = .ok (.iload_n 2, 1) := by decide +kernel
theorem dL_chapter_5 : decode cL_chapter 5 = .ok (.invokevirtual 67, 3) := by decide +kernel
theorem dL_chapter_8 : decode cL_chapter 8 = .ok (.i2l, 1) := by decide +kernel
theorem dL_chapter_9 : decode cL_chapter 9 = .ok (.lastore, 1) := by decide +kernel
theorem dL_chapter_10 : decode cL_chapter 10 = .ok (.goto 15, 3) := by decide +kernel
theorem dL_chapter_13 : decode cL_chapter 13 = .ok (.astore 4, 2) := by decide +kernel
theorem dL_chapter_15 : decode cL_chapter 15 = .ok (.iconst 1, 1) := by decide +kernel
theorem dL_chapter_16 : decode cL_chapter 16 = .ok (.ireturn, 1) := by decide +kernel
theorem dL_chapter_17 : decode cL_chapter 17 = .ok (.astore 4, 2) := by decide +kernel
theorem dL_chapter_19 : decode cL_chapter 19 = .ok (.iconst 2, 1) := by decide +kernel
theorem dL_chapter_20 : decode cL_chapter 20 = .ok (.ireturn, 1) := by decide +kernel
theorem dL_chapter_21 : decode cL_chapter 21 = .ok (.astore 4, 2) := by decide +kernel
theorem dL_chapter_23 : decode cL_chapter 23 = .ok (.iconst 3, 1) := by decide +kernel
theorem dL_chapter_24 : decode cL_chapter 24 = .ok (.ireturn, 1) := by decide +kernel
theorem dL_chapter_25 : decode cL_chapter 25 = .ok (.iconst 0, 1) := by decide +kernel
theorem dL_chapter_26 : decode cL_chapter 26 = .ok (.ireturn, 1) := by decide +kernel
set_option maxRecDepth 100000 in
theorem ggL_chapterOf_X10_chapterOf : GoodIn wsL_chapterOf wsX10_chapterOf := goodIn_ca (goodIn_r _ [6, 7, 8, 9, 10, 11, 12, 5, 13, 14, 15, 16, 17, 18, 19, 20, 21, 22, 23, 24, 25, 26, 27, 28, 29, 30, 31, 32, 33, 34, 35, 36, 37, 38, 39, 40, 41, 42, 43, 44, 45, 46, 47, 48, 49, 50, 51, 52, 53, 54, 55, 56, 57, 58, 59, 60, 61, 62, 63, 64, 65, 66, 67, 68, 69, 70, 71, 72, 73, 74, 75, 76, 77, 78, 79, 80, 81, 82, 83, 84, 85, 86, 87, 88, 89, 90, 91, 92, 93, 94, 95, 96, 97, 98, 99, 100, 101, 102, 103, 104, 105, 106, 107, 108, 109, 110, 111, 112, 113, 114, 115, 116, 117, 118, 119, 120, 121, 122, 123, 124, 125, 126, 127, 128, 129, 130, 131, 132, 133, 134, 135, 136, 137, 138, 139, 140, 141, 142, 143, 144, 145, 146, 147, 148, 149, 150, 151, 152, 153, 154, 155, 156, 157, 158, 159, 160, 161, 162, 163, 164, 165, 166, 167, 168, 169, 170, 171, 172, 173, 174, 175, 176, 177, 178, 179, 180, 181, 182, 183, 184, 185, 186, 187, 188, 189, 190, 191, 192, 193, 194, 195, 196, 197, 198, 199, 200, 201, 202, 203, 204, 205, 206, 207, 208, 209, 210, 211, 212, 213, 214, 215, 216, 217, 218, 219, 220, 221, 222, 223, 224, 225, 226, 227] rfl (by decide +kernel)) (goodIn_sub (fun _ h => List.mem_cons_of_mem _ (List.mem_append_right _ h)) (by decide +kernel))
set_option maxRecDepth 100000 in
theorem gL_chapterOf_X10_chapterOf : GoodIn wsL_chapterOf (wsV RL 70 RX10 yX10_chapterOf wsX10_chapterOf) := goodIn_app (goodIn_of _ (by decide +kernel)) ggL_chapterOf_X10_chapterOf
theorem dL_chapterOf_0 : decode cL_chapterOf 0 = .ok (.aload_n 2, 1) := by decide +kernel
theorem dL_chapterOf_1 : decode cL_chapterOf 1 = .ok (.iconst 0, 1) := by decide +kernel
theorem dL_chapterOf_2 : decode cL_chapterOf 2 = .ok (.aload_n 0, 1) := by decide +kernel
theorem dL_chapterOf_3 : decode cL_chapterOf 3 = .ok (.iload_n 1, 1) := by decide +kernel
theorem dL_chapterOf_4 : decode cL_chapterOf 4 = .ok (.invokevirtual 70, 3) := by decide +kernel
theorem dL_chapterOf_7 : decode cL_chapterOf 7 = .ok (.i2l, 1) := by decide +kernel
theorem dL_chapterOf_8 : decode cL_chapterOf 8 = .ok (.lastore, 1) := by decide +kernel
theorem dL_chapterOf_9 : decode cL_chapterOf 9 = .ok (.goto 6, 3) := by decide +kernel
theorem dL_chapterOf_12 : decode cL_chapterOf 12 = .ok (.astore_n 3, 1) := by decide +kernel
theorem dL_chapterOf_13 : decode cL_chapterOf 13 = .ok (.iconst 1, 1) := by decide +kernel
theorem dL_chapterOf_14 : decode cL_chapterOf 14 = .ok (.ireturn, 1) := by decide +kernel
theorem dL_chapterOf_15 : decode cL_chapterOf 15 = .ok (.iconst 0, 1) := by decide +kernel
theorem dL_chapterOf_16 : decode cL_chapterOf 16 = .ok (.ireturn, 1) := by decide +kernel
set_option maxRecDepth 100000 in
theorem ggL_worthOf_X10_worthOf : GoodIn wsL_worthOf wsX10_worthOf := goodIn_ca (goodIn_r _ [6, 7, 8, 9, 10, 11, 12, 5, 13, 14, 15, 16, 17, 18, 19, 20, 21, 22, 23, 24, 25, 26, 27, 28, 29, 30, 31, 32, 33, 34, 35, 36, 37, 38, 39, 40, 41, 42, 43, 44, 45, 46, 47, 48, 49, 50, 51, 52, 53, 54, 55, 56, 57, 58, 59, 60, 61, 62, 63, 64, 65, 66, 67, 68, 69, 70, 71, 72, 73, 74, 75, 76, 77, 78, 79, 80, 81, 82, 83, 84, 85, 86, 87, 88, 89, 90, 91, 92, 93, 94, 95, 96, 97, 98, 99, 100, 101, 102, 103, 104, 105, 106, 107, 108, 109, 110, 111, 112, 113, 114, 115, 116, 117, 118, 119, 120, 121, 122, 123, 124, 125, 126, 127, 128, 129, 130, 131, 132, 133, 134, 135, 136, 137, 138, 139, 140, 141, 142, 143, 144, 145, 146, 147, 148, 149, 150, 151, 152, 153, 154, 155, 156, 157, 158, 159, 160, 161, 162, 163, 164, 165, 166, 167, 168, 169, 170, 171, 172, 173, 174, 175, 176, 177, 178, 179, 180, 181, 182, 183, 184, 185, 186, 187, 188, 189, 190, 191, 192, 193, 194, 195, 196, 197, 198, 199, 200, 201, 202, 203, 204, 205, 206, 207, 208, 209, 210, 211, 212, 213, 214, 215, 216, 217, 218, 219, 220, 221, 222, 223, 224, 225, 226, 227, 228, 229, 230] rfl (by decide +kernel)) (goodIn_sub (fun _ h => List.mem_cons_of_mem _ (List.mem_append_right _ h)) (by decide +kernel))
set_option maxRecDepth 100000 in
theorem gL_worthOf_X10_worthOf : GoodIn wsL_worthOf (wsV RL 73 RX10 yX10_worthOf wsX10_worthOf) := goodIn_app (goodIn_of _ (by decide +kernel)) ggL_worthOf_X10_worthOf
theorem dL_worthOf_0 : decode cL_worthOf 0 = .ok (.aload_n 2, 1) := by decide +kernel
theorem dL_worthOf_1 : decode cL_worthOf 1 = .ok (.iconst 0, 1) := by decide +kernel
theorem dL_worthOf_2 : decode cL_worthOf 2 = .ok (.aload_n 0, 1) := by decide +kernel
theorem dL_worthOf_3 : decode cL_worthOf 3 = .ok (.iload_n 1, 1) := by decide +kernel
theorem dL_worthOf_4 : decode cL_worthOf 4 = .ok (.invokevirtual 73, 3) := by decide +kernel
theorem dL_worthOf_7 : decode cL_worthOf 7 = .ok (.i2l, 1) := by decide +kernel
theorem dL_worthOf_8 : decode cL_worthOf 8 = .ok (.lastore, 1) := by decide +kernel
theorem dL_worthOf_9 : decode cL_worthOf 9 = .ok (.goto 6, 3) := by decide +kernel
theorem dL_worthOf_12 : decode cL_worthOf 12 = .ok (.astore_n 3, 1) := by decide +kernel
theorem dL_worthOf_13 : decode cL_worthOf 13 = .ok (.iconst 1, 1) := by decide +kernel
theorem dL_worthOf_14 : decode cL_worthOf 14 = .ok (.ireturn, 1) := by decide +kernel
theorem dL_worthOf_15 : decode cL_worthOf 15 = .ok (.iconst 0, 1) := by decide +kernel
theorem dL_worthOf_16 : decode cL_worthOf 16 = .ok (.ireturn, 1) := by decide +kernel
set_option maxRecDepth 100000 in
theorem ggL_isAllowed_X10_isAllowed : GoodIn wsL_isAllowed wsX10_isAllowed := goodIn_ca (goodIn_r _ [6, 7, 8, 9, 10, 5, 11, 12, 13, 14, 15, 16, 17, 18, 19, 20, 21, 22, 23, 24, 25, 26, 27, 28, 29, 30, 31, 32, 33, 34, 35, 36, 37, 38, 39, 40, 41, 42, 43, 44, 45, 46, 47, 48, 49, 50, 51, 52, 53, 54, 55, 56, 57, 58, 59, 60, 61, 62, 63, 64, 65, 66, 67, 68, 69, 70, 71, 72, 73, 74, 75, 76, 77, 78, 79, 80, 81, 82, 83, 84, 85, 86, 87, 88, 89, 90, 91, 92, 93, 94, 95, 96, 97, 98, 99, 100, 101, 102, 103, 104, 105, 106, 107, 108, 109, 110, 111, 112, 113, 114, 115, 116, 117, 118, 119, 120, 121, 122, 123, 124, 125, 126, 127, 128, 129, 130, 131, 132, 133, 134, 135, 136, 137, 138, 139, 140, 141, 142, 143, 144, 145, 146, 147, 148, 149, 150, 151, 152, 153, 154, 155, 156, 157, 158, 159, 160, 161, 162, 163, 164, 165, 166, 167, 168, 169, 170, 171, 172, 173, 174, 175, 176, 177, 178, 179, 180, 181, 182, 183, 184, 185, 186, 187, 188, 189, 190, 191, 192, 193, 194, 195, 196, 197, 198, 199, 200, 201, 202, 203, 204, 205, 206, 207, 208, 209, 210, 211, 212, 213, 214, 215, 216, 217, 218, 219, 220, 221, 222, 223, 224, 225, 226, 227, 228, 229] rfl (by decide +kernel)) (goodIn_sub (fun _ h => List.mem_cons_of_mem _ (List.mem_append_right _ h)) (by decide +kernel))
set_option maxRecDepth 100000 in
theorem gL_isAllowed_X10_isAllowed : GoodIn wsL_isAllowed (wsV RL 76 RX10 yX10_isAllowed wsX10_isAllowed) := goodIn_app (goodIn_of _ (by decide +kernel)) ggL_isAllowed_X10_isAllowed
theorem dL_isAllowed_0 : decode cL_isAllowed 0 = .ok (.aload_n 2, 1) := by decide +kernel
theorem dL_isAllowed_1 : decode cL_isAllowed 1 = .ok (.iconst 0, 1) := by decide +kernel
theorem dL_isAllowed_2 : decode cL_isAllowed 2 = .ok (.aload_n 0, 1) := by decide +kernel
theorem dL_isAllowed_3 : decode cL_isAllowed 3 = .ok (.iload_n 1, 1) := by decide +kernel
theorem dL_isAllowed_4 : decode cL_isAllowed 4 = .ok (.invokevirtual 76, 3) := by decide +kernel
theorem dL_isAllowed_7 : decode cL_isAllowed 7 = .ok (.ifCond .eq 7, 3) := by decide +kernel
theorem dL_isAllowed_10 : decode cL_isAllowed 10 = .ok (.lconst 1, 1) := by decide +kernel
theorem dL_isAllowed_11 : decode cL_isAllowed 11 = .ok (.goto 4, 3) := by decide +kernel
theorem dL_isAllowed_14 : decode cL_isAllowed 14 = .ok (.lconst 0, 1) := by decide +kernel
theorem dL_isAllowed_15 : decode cL_isAllowed 15 = .ok (.lastore, 1) := by decide +kernel
theorem dL_isAllowed_16 : decode cL_isAllowed 16 = .ok (.goto 6, 3) := by decide +kernel
theorem dL_isAllowed_19 : decode cL_isAllowed 19 = .ok (.astore_n 3, 1) := by decide +kernel
theorem dL_isAllowed_20 : decode cL_isAllowed 20 = .ok (.iconst 1, 1) := by decide +kernel
theorem dL_isAllowed_21 : decode cL_isAllowed 21 = .ok (.ireturn, 1) := by decide +kernel
theorem dL_isAllowed_22 : decode cL_isAllowed 22 = .ok (.iconst 0, 1) := by decide +kernel
theorem dL_isAllowed_23 : decode cL_isAllowed 23 = .ok (.ireturn, 1) := by decide +kernel
set_option maxRecDepth 100000 in
theorem ggL_worthWith_X10_worthWith : GoodIn wsL_worthWith wsX10_worthWith := goodIn_ca (goodIn_ca (goodIn_r _ [7, 8, 9, 10, 11, 12, 13, 14, 15, 16, 6, 17, 18, 19, 20, 21, 22, 23, 24, 25, 26, 27, 28, 29, 30, 31, 32, 33, 34, 35, 36, 37, 38, 39, 40, 41, 42, 43, 44, 45, 46, 47, 48, 49, 50, 51, 52, 53, 54, 55, 56, 57, 58, 59, 60, 61, 62, 63, 64, 65, 66, 67, 68, 69, 70, 71, 72, 73, 74, 75, 76, 77, 78, 79, 80, 81, 82, 83, 84, 85, 86, 87, 88, 89, 90, 91, 92, 93, 94, 95, 96, 97, 98, 99, 100, 101, 102, 103, 104, 105, 106, 107, 108, 109, 110, 111, 112, 113, 114, 115, 116, 117, 118, 119, 120, 121, 122, 123, 124, 125, 126, 127, 128, 129, 130, 131, 132, 133, 134, 135, 136, 137, 138, 139, 140, 141, 142, 143, 144, 145, 146, 147, 148, 149, 150, 151, 152, 153, 154, 155, 156, 157, 158, 159, 160, 161, 162, 163, 164, 165, 166, 167, 168, 169, 170, 171, 172, 173, 174, 175, 176, 177, 178, 179, 180, 181, 182, 183, 184, 185, 186, 187, 188, 189, 190, 191, 192, 193, 194, 195, 196, 197, 198, 199, 200, 201, 202, 203, 204, 205, 206, 207, 208, 209, 210, 211, 212, 213, 214, 215, 216, 217, 218, 219, 220, 221, 222, 223, 224, 225, 226, 227, 228, 229, 230, 231] rfl (by decide +kernel)) (goodIn_sub (fun _ h => List.mem_cons_of_mem _ (List.mem_append_left _ (List.mem_append_right _ h))) (by decide +kernel))) (goodIn_sub (fun _ h => List.mem_cons_of_mem _ (List.mem_append_right _ h)) (by decide +kernel))
set_option maxRecDepth 100000 in
theorem gL_worthWith_X10_worthWith : GoodIn wsL_worthWith (wsV RL 80 RX10 yX10_worthWith wsX10_worthWith) := goodIn_app (goodIn_of _ (by decide +kernel)) ggL_worthWith_X10_worthWith
theorem dL_worthWith_0 : decode cL_worthWith 0 = .ok (.aload_n 3, 1) := by decide +kernel
theorem dL_worthWith_1 : decode cL_worthWith 1 = .ok (.iconst 0, 1) := by decide +kernel
theorem dL_worthWith_2 : decode cL_worthWith 2 = .ok (.aload_n 0, 1) := by decide +kernel
theorem dL_worthWith_3 : decode cL_worthWith 3 = .ok (.iload_n 1, 1) := by decide +kernel
theorem dL_worthWith_4 : decode cL_worthWith 4 = .ok (.iload_n 2, 1) := by decide +kernel
theorem dL_worthWith_5 : decode cL_worthWith 5 = .ok (.invokevirtual 80, 3) := by decide +kernel
theorem dL_worthWith_8 : decode cL_worthWith 8 = .ok (.i2l, 1) := by decide +kernel
theorem dL_worthWith_9 : decode cL_worthWith 9 = .ok (.lastore, 1) := by decide +kernel
theorem dL_worthWith_10 : decode cL_worthWith 10 = .ok (.goto 11, 3) := by decide +kernel
theorem dL_worthWith_13 : decode cL_worthWith 13 = .ok (.astore 4, 2) := by decide +kernel
theorem dL_worthWith_15 : decode cL_worthWith 15 = .ok (.iconst 1, 1) := by decide +kernel
theorem dL_worthWith_16 : decode cL_worthWith 16 = .ok (.ireturn, 1) := by decide +kernel
theorem dL_worthWith_17 : decode cL_worthWith 17 = .ok (.astore 4, 2) := by decide +kernel
theorem dL_worthWith_19 : decode cL_worthWith 19 = .ok (.iconst 2, 1) := by decide +kernel
theorem dL_worthWith_20 : decode cL_worthWith 20 = .ok (.ireturn, 1) := by decide +kernel
theorem dL_worthWith_21 : decode cL_worthWith 21 = .ok (.iconst 0, 1) := by decide +kernel
theorem dL_worthWith_22 : decode cL_worthWith 22 = .ok (.ireturn, 1) := by decide +kernel
set_option maxRecDepth 100000 in
theorem ggL_priceFor_X10_priceFor : GoodIn wsL_priceFor wsX10_priceFor := goodIn_ca (goodIn_ca (goodIn_r _ [7, 8, 9, 10, 11, 12, 13, 6, 14, 15, 16, 17, 18, 19, 20, 21, 22, 23, 24, 25, 26, 27, 28, 29, 30, 31, 32, 33, 34, 35, 36, 37, 38, 39, 40, 41, 42, 43, 44, 45, 46, 47, 48, 49, 50, 51, 52, 53, 54, 55, 56, 57, 58, 59, 60, 61, 62, 63, 64, 65, 66, 67, 68, 69, 70, 71, 72, 73, 74, 75, 76, 77, 78, 79, 80, 81, 82, 83, 84, 85, 86, 87, 88, 89, 90, 91, 92, 93, 94, 95, 96, 97, 98, 99, 100, 101, 102, 103, 104, 105, 106, 107, 108, 109, 110, 111, 112, 113, 114, 115, 116, 117, 118, 119, 120, 121, 122, 123, 124, 125, 126, 127, 128, 129, 130, 131, 132, 133, 134, 135, 136, 137, 138, 139, 140, 141, 142, 143, 144, 145, 146, 147, 148, 149, 150, 151, 152, 153, 154, 155, 156, 157, 158, 159, 160, 161, 162, 163, 164, 165, 166, 167, 168, 169, 170, 171, 172, 173, 174, 175, 176, 177, 178, 179, 180, 181, 182, 183, 184, 185, 186, 187, 188, 189, 190, 191, 192, 193, 194, 195, 196, 197, 198, 199, 200, 201, 202, 203, 204, 205, 206, 207, 208, 209, 210, 211, 212, 213, 214, 215, 216, 217, 218, 219, 220, 221, 222, 223, 224, 225, 226, 227, 228, 229, 230, 231, 232, 233, 234, 235] rfl (by decide +kernel)) (goodIn_sub (fun _ h => List.mem_cons_of_mem _ (List.mem_append_left _ (List.mem_append_right _ h))) (by decide +kernel))) (goodIn_sub (fun _ h => List.mem_cons_of_mem _ (List.mem_append_right _ h)) (by decide +kernel))
set_option maxRecDepth 100000 in
theorem gL_priceFor_X10_priceFor : GoodIn wsL_priceFor (wsV RL 84 RX10 yX10_priceFor wsX10_priceFor) := goodIn_app (goodIn_of _ (by decide +kernel)) ggL_priceFor_X10_priceFor
theorem dL_priceFor_0 : decode cL_priceFor 0 = .ok (.aload_n 2, 1) := by decide +kernel
theorem dL_priceFor_1 : decode cL_priceFor 1 = .ok (.iconst 0, 1) := by decide +kernel
theorem dL_priceFor_2 : decode cL_priceFor 2 = .ok (.aload_n 0, 1) := by decide +kernel
theorem dL_priceFor_3 : decode cL_priceFor 3 = .ok (.iload_n 1, 1) := by decide +kernel
theorem dL_priceFor_4 : decode cL_priceFor 4 = .ok (.invokevirtual 84, 3) := by decide +kernel
theorem dL_priceFor_7 : decode cL_priceFor 7 = .ok (.i2l, 1) := by decide +kernel
theorem dL_priceFor_8 : decode cL_priceFor 8 = .ok (.lastore, 1) := by decide +kernel
theorem dL_priceFor_9 : decode cL_priceFor 9 = .ok (.goto 9, 3) := by decide +kernel
theorem dL_priceFor_12 : decode cL_priceFor 12 = .ok (.astore_n 3, 1) := by decide +kernel
theorem dL_priceFor_13 : decode cL_priceFor 13 = .ok (.iconst 1, 1) := by decide +kernel
theorem dL_priceFor_14 : decode cL_priceFor 14 = .ok (.ireturn, 1) := by decide +kernel
theorem dL_priceFor_15 : decode cL_priceFor 15 = .ok (.astore_n 3, 1) := by decide +kernel
theorem dL_priceFor_16 : decode cL_priceFor 16 = .ok (.iconst 2, 1) := by decide +kernel
theorem dL_priceFor_17 : decode cL_priceFor 17 = .ok (.ireturn, 1) := by decide +kernel
theorem dL_priceFor_18 : decode cL_priceFor 18 = .ok (.iconst 0, 1) := by decide +kernel
theorem dL_priceFor_19 : decode cL_priceFor 19 = .ok (.ireturn, 1) := by decide +kernel
set_option maxRecDepth 100000 in
theorem ggL_chaptersWith_X10_chaptersWith : GoodIn wsL_chaptersWith wsX10_chaptersWith := goodIn_ca (goodIn_ca (goodIn_r _ [7, 8, 9, 10, 11, 12, 6, 13, 14, 15, 16, 17, 18, 19, 20, 21, 22, 23, 24, 25, 26, 27, 28, 29, 30, 31, 32, 33, 34, 35, 36, 37, 38, 39, 40, 41, 42, 43, 44, 45, 46, 47, 48, 49, 50, 51, 52, 53, 54, 55, 56, 57, 58, 59, 60, 61, 62, 63, 64, 65, 66, 67, 68, 69, 70, 71, 72, 73, 74, 75, 76, 77, 78, 79, 80, 81, 82, 83, 84, 85, 86, 87, 88, 89, 90, 91, 92, 93, 94, 95, 96, 97, 98, 99, 100, 101, 102, 103, 104, 105, 106, 107, 108, 109, 110, 111, 112, 113, 114, 115, 116, 117, 118, 119, 120, 121, 122, 123, 124, 125, 126, 127, 128, 129, 130, 131, 132, 133, 134, 135, 136, 137, 138, 139, 140, 141, 142, 143, 144, 145, 146, 147, 148, 149, 150, 151, 152, 153, 154, 155, 156, 157, 158, 159, 160, 161, 162, 163, 164, 165, 166, 167, 168, 169, 170, 171, 172, 173, 174, 175, 176, 177, 178, 179, 180, 181, 182, 183, 184, 185, 186, 187, 188, 189, 190, 191, 192, 193, 194, 195, 196, 197, 198, 199, 200, 201, 202, 203, 204, 205, 206, 207, 208, 209, 210, 211, 212, 213, 214, 215, 216, 217, 218, 219, 220, 221, 222, 223, 224, 225, 226, 227, 228, 229, 230, 231, 232, 233, 234] rfl (by decide +kernel)) (goodIn_sub (fun _ h => List.mem_cons_of_mem _ (List.mem_append_left _ (List.mem_append_right _ h))) (by decide +kernel))) (goodIn_sub (fun _ h => List.mem_cons_of_mem _ (List.mem_append_right _ h)) (by decide +kernel))
set_option maxRecDepth 100000 in
theorem gL_chaptersWith_X10_chaptersWith : GoodIn wsL_chaptersWith (wsV RL 87 RX10 yX10_chaptersWith wsX10_chaptersWith) := goodIn_app (goodIn_of _ (by decide +kernel)) ggL_chaptersWith_X10_chaptersWith
theorem dL_chaptersWith_0 : decode cL_chaptersWith 0 = .ok (.aload_n 2, 1) := by decide +kernel
theorem dL_chaptersWith_1 : decode cL_chaptersWith 1 = .ok (.iconst 0, 1) := by decide +kernel
theorem dL_chaptersWith_2 : decode cL_chaptersWith 2 = .ok (.aload_n 0, 1) := by decide +kernel
theorem dL_chaptersWith_3 : decode cL_chaptersWith 3 = .ok (.iload_n 1, 1) := by decide +kernel
theorem dL_chaptersWith_4 : decode cL_chaptersWith 4 = .ok (.invokevirtual 87, 3) := by decide +kernel
theorem dL_chaptersWith_7 : decode cL_chaptersWith 7 = .ok (.i2l, 1) := by decide +kernel
theorem dL_chaptersWith_8 : decode cL_chaptersWith 8 = .ok (.lastore, 1) := by decide +kernel
theorem dL_chaptersWith_9 : decode cL_chaptersWith 9 = .ok (.goto 9, 3) := by decide +kernel
theorem dL_chaptersWith_12 : decode cL_chaptersWith 12 = .ok (.astore_n 3, 1) := by decide +kernel
theorem dL_chaptersWith_13 : decode cL_chaptersWith 13 = .ok (.iconst 1, 1) := by decide +kernel
theorem dL_chaptersWith_14 : decode cL_chaptersWith 14 = .ok (.ireturn, 1) := by decide +kernel
theorem dL_chaptersWith_15 : decode cL_chaptersWith 15 = .ok (.astore_n 3, 1) := by decide +kernel
theorem dL_chaptersWith_16 : decode cL_chaptersWith 16 = .ok (.iconst 2, 1) := by decide +kernel
theorem dL_chaptersWith_17 : decode cL_chaptersWith 17 = .ok (.ireturn, 1) := by decide +kernel
theorem dL_chaptersWith_18 : decode cL_chaptersWith 18 = .ok (.iconst 0, 1) := by decide +kernel
theorem dL_chaptersWith_19 : decode cL_chaptersWith 19 = .ok (.ireturn, 1) := by decide +kernel
set_option maxRecDepth 100000 in
theorem ggL_typical_X10_typical : GoodIn wsL_typical wsX10_typical := goodIn_ca (goodIn_ca (goodIn_r _ [7, 8, 9, 10, 11, 12, 13, 14, 15, 6, 16, 17, 18, 19, 20, 21, 22, 23, 24, 25, 26, 27, 28, 29, 30, 31, 32, 33, 34, 35, 36, 37, 38, 39, 40, 41, 42, 43, 44, 45, 46, 47, 48, 49, 50, 51, 52, 53, 54, 55, 56, 57, 58, 59, 60, 61, 62, 63, 64, 65, 66, 67, 68, 69, 70, 71, 72, 73, 74, 75, 76, 77, 78, 79, 80, 81, 82, 83, 84, 85, 86, 87, 88, 89, 90, 91, 92, 93, 94, 95, 96, 97, 98, 99, 100, 101, 102, 103, 104, 105, 106, 107, 108, 109, 110, 111, 112, 113, 114, 115, 116, 117, 118, 119, 120, 121, 122, 123, 124, 125, 126, 127, 128, 129, 130, 131, 132, 133, 134, 135, 136, 137, 138, 139, 140, 141, 142, 143, 144, 145, 146, 147, 148, 149, 150, 151, 152, 153, 154, 155, 156, 157, 158, 159, 160, 161, 162, 163, 164, 165, 166, 167, 168, 169, 170, 171, 172, 173, 174, 175, 176, 177, 178, 179, 180, 181, 182, 183, 184, 185, 186, 187, 188, 189, 190, 191, 192, 193, 194, 195, 196, 197, 198, 199, 200, 201, 202, 203, 204, 205, 206, 207, 208, 209, 210, 211, 212, 213, 214, 215, 216, 217, 218, 219, 220, 221, 222, 223, 224, 225, 226, 227, 228, 229, 230, 231, 232, 233, 234, 235, 236, 237, 238, 239, 240, 241, 242, 243, 244] rfl (by decide +kernel)) (goodIn_sub (fun _ h => List.mem_cons_of_mem _ (List.mem_append_left _ (List.mem_append_right _ h))) (by decide +kernel))) (goodIn_sub (fun _ h => List.mem_cons_of_mem _ (List.mem_append_right _ h)) (by decide +kernel))
set_option maxRecDepth 100000 in
theorem gL_typical_X10_typical : GoodIn wsL_typical (wsV RL 90 RX10 yX10_typical wsX10_typical) := goodIn_app (goodIn_of _ (by decide +kernel)) ggL_typical_X10_typical
theorem dL_typical_0 : decode cL_typical 0 = .ok (.aload_n 2, 1) := by decide +kernel
theorem dL_typical_1 : decode cL_typical 1 = .ok (.iconst 0, 1) := by decide +kernel
theorem dL_typical_2 : decode cL_typical 2 = .ok (.aload_n 0, 1) := by decide +kernel
theorem dL_typical_3 : decode cL_typical 3 = .ok (.iload_n 1, 1) := by decide +kernel
theorem dL_typical_4 : decode cL_typical 4 = .ok (.invokevirtual 90, 3) := by decide +kernel
theorem dL_typical_7 : decode cL_typical 7 = .ok (.i2l, 1) := by decide +kernel
theorem dL_typical_8 : decode cL_typical 8 = .ok (.lastore, 1) := by decide +kernel
theorem dL_typical_9 : decode cL_typical 9 = .ok (.goto 9, 3) := by decide +kernel
theorem dL_typical_12 : decode cL_typical 12 = .ok (.astore_n 3, 1) := by decide +kernel
theorem dL_typical_13 : decode cL_typical 13 = .ok (.iconst 1, 1) := by decide +kernel
theorem dL_typical_14 : decode cL_typical 14 = .ok (.ireturn, 1) := by decide +kernel
theorem dL_typical_15 : decode cL_typical 15 = .ok (.astore_n 3, 1) := by decide +kernel
theorem dL_typical_16 : decode cL_typical 16 = .ok (.iconst 2, 1) := by decide +kernel
theorem dL_typical_17 : decode cL_typical 17 = .ok (.ireturn, 1) := by decide +kernel
theorem dL_typical_18 : decode cL_typical 18 = .ok (.iconst 0, 1) := by decide +kernel
theorem dL_typical_19 : decode cL_typical 19 = .ok (.ireturn, 1) := by decide +kernel
set_option maxRecDepth 100000 in
theorem ggL_likeness_X10_likeness : GoodIn wsL_likeness wsX10_likeness := goodIn_ca (goodIn_ca (goodIn_r _ [7, 8, 9, 10, 11, 6, 12, 13, 14, 15, 16, 17, 18, 19, 20, 21, 22, 23, 24, 25, 26, 27, 28, 29, 30, 31, 32, 33, 34, 35, 36, 37, 38, 39, 40, 41, 42, 43, 44, 45, 46, 47, 48, 49, 50, 51, 52, 53, 54, 55, 56, 57, 58, 59, 60, 61, 62, 63, 64, 65, 66, 67, 68, 69, 70, 71, 72, 73, 74, 75, 76, 77, 78, 79, 80, 81, 82, 83, 84, 85, 86, 87, 88, 89, 90, 91, 92, 93, 94, 95, 96, 97, 98, 99, 100, 101, 102, 103, 104, 105, 106, 107, 108, 109, 110, 111, 112, 113, 114, 115, 116, 117, 118, 119, 120, 121, 122, 123, 124, 125, 126, 127, 128, 129, 130, 131, 132, 133, 134, 135, 136, 137, 138, 139, 140, 141, 142, 143, 144, 145, 146, 147, 148, 149, 150, 151, 152, 153, 154, 155, 156, 157, 158, 159, 160, 161, 162, 163, 164, 165, 166, 167, 168, 169, 170, 171, 172, 173, 174, 175, 176, 177, 178, 179, 180, 181, 182, 183, 184, 185, 186, 187, 188, 189, 190, 191, 192, 193, 194, 195, 196, 197, 198, 199, 200, 201, 202, 203, 204, 205, 206, 207, 208, 209, 210, 211, 212, 213, 214, 215, 216, 217, 218, 219, 220, 221, 222, 223, 224, 225, 226, 227, 228, 229, 230, 231, 232, 233, 234, 235, 236] rfl (by decide +kernel)) (goodIn_sub (fun _ h => List.mem_cons_of_mem _ (List.mem_append_left _ (List.mem_append_right _ h))) (by decide +kernel))) (goodIn_sub (fun _ h => List.mem_cons_of_mem _ (List.mem_append_right _ h)) (by decide +kernel))
set_option maxRecDepth 100000 in
theorem gL_likeness_X10_likeness : GoodIn wsL_likeness (wsV RL 93 RX10 yX10_likeness wsX10_likeness) := goodIn_app (goodIn_of _ (by decide +kernel)) ggL_likeness_X10_likeness
theorem dL_likeness_0 : decode cL_likeness 0 = .ok (.aload_n 3, 1) := by decide +kernel
theorem dL_likeness_1 : decode cL_likeness 1 = .ok (.iconst 0, 1) := by decide +kernel
theorem dL_likeness_2 : decode cL_likeness 2 = .ok (.aload_n 0, 1) := by decide +kernel
theorem dL_likeness_3 : decode cL_likeness 3 = .ok (.iload_n 1, 1) := by decide +kernel
theorem dL_likeness_4 : decode cL_likeness 4 = .ok (.iload_n 2, 1) := by decide +kernel
theorem dL_likeness_5 : decode cL_likeness 5 = .ok (.invokevirtual 93, 3) := by decide +kernel
theorem dL_likeness_8 : decode cL_likeness 8 = .ok (.i2l, 1) := by decide +kernel
theorem dL_likeness_9 : decode cL_likeness 9 = .ok (.lastore, 1) := by decide +kernel
theorem dL_likeness_10 : decode cL_likeness 10 = .ok (.goto 11, 3) := by decide +kernel
theorem dL_likeness_13 : decode cL_likeness 13 = .ok (.astore 4, 2) := by decide +kernel
theorem dL_likeness_15 : decode cL_likeness 15 = .ok (.iconst 1, 1) := by decide +kernel
theorem dL_likeness_16 : decode cL_likeness 16 = .ok (.ireturn, 1) := by decide +kernel
theorem dL_likeness_17 : decode cL_likeness 17 = .ok (.astore 4, 2) := by decide +kernel
theorem dL_likeness_19 : decode cL_likeness 19 = .ok (.iconst 2, 1) := by decide +kernel
theorem dL_likeness_20 : decode cL_likeness 20 = .ok (.ireturn, 1) := by decide +kernel
theorem dL_likeness_21 : decode cL_likeness 21 = .ok (.iconst 0, 1) := by decide +kernel
theorem dL_likeness_22 : decode cL_likeness 22 = .ok (.ireturn, 1) := by decide +kernel
set_option maxRecDepth 100000 in
theorem ggL_mark_X10_mark : GoodIn wsL_mark wsX10_mark := goodIn_ca (goodIn_ca (goodIn_r _ [7, 8, 9, 10, 11, 6, 12, 13, 14, 15, 16, 17, 18, 19, 20, 21, 22, 23, 24, 25, 26, 27, 28, 29, 30, 31, 32, 33, 34, 35, 36, 37, 38, 39, 40, 41, 42, 43, 44, 45, 46, 47, 48, 49, 50, 51, 52, 53, 54, 55, 56, 57, 58, 59, 60, 61, 62, 63, 64, 65, 66, 67, 68, 69, 70, 71, 72, 73, 74, 75, 76, 77, 78, 79, 80, 81, 82, 83, 84, 85, 86, 87, 88, 89, 90, 91, 92, 93, 94, 95, 96, 97, 98, 99, 100, 101, 102, 103, 104, 105, 106, 107, 108, 109, 110, 111, 112, 113, 114, 115, 116, 117, 118, 119, 120, 121, 122, 123, 124, 125, 126, 127, 128, 129, 130, 131, 132, 133, 134, 135, 136, 137, 138, 139, 140, 141, 142, 143, 144, 145, 146, 147, 148, 149, 150, 151, 152, 153, 154, 155, 156, 157, 158, 159, 160, 161, 162, 163, 164, 165, 166, 167, 168, 169, 170, 171, 172, 173, 174, 175, 176, 177, 178, 179, 180, 181, 182, 183, 184, 185, 186, 187, 188, 189, 190, 191, 192, 193, 194, 195, 196, 197, 198, 199, 200, 201, 202, 203, 204, 205, 206, 207, 208, 209, 210, 211, 212, 213, 214, 215, 216, 217, 218, 219, 220, 221, 222, 223, 224, 225, 226, 227, 228, 229, 230, 231, 232, 233, 234, 235, 236, 237, 238, 239, 240, 241] rfl (by decide +kernel)) (goodIn_sub (fun _ h => List.mem_cons_of_mem _ (List.mem_append_left _ (List.mem_append_right _ h))) (by decide +kernel))) (goodIn_sub (fun _ h => List.mem_cons_of_mem _ (List.mem_append_right _ h)) (by decide +kernel))
set_option maxRecDepth 100000 in
theorem gL_mark_X10_mark : GoodIn wsL_mark (wsV RL 96 RX10 yX10_mark wsX10_mark) := goodIn_app (goodIn_of _ (by decide +kernel)) ggL_mark_X10_mark
theorem dL_mark_0 : decode cL_mark 0 = .ok (.aload_n 3, 1) := by decide +kernel
theorem dL_mark_1 : decode cL_mark 1 = .ok (.iconst 0, 1) := by decide +kernel
theorem dL_mark_2 : decode cL_mark 2 = .ok (.aload_n 0, 1) := by decide +kernel
theorem dL_mark_3 : decode cL_mark 3 = .ok (.iload_n 1, 1) := by decide +kernel
theorem dL_mark_4 : decode cL_mark 4 = .ok (.iload_n 2, 1) := by decide +kernel
theorem dL_mark_5 : decode cL_mark 5 = .ok (.invokevirtual 96, 3) := by decide +kernel
theorem dL_mark_8 : decode cL_mark 8 = .ok (.i2l, 1) := by decide +kernel
theorem dL_mark_9 : decode cL_mark 9 = .ok (.lastore, 1) := by decide +kernel
theorem dL_mark_10 : decode cL_mark 10 = .ok (.goto 11, 3) := by decide +kernel
theorem dL_mark_13 : decode cL_mark 13 = .ok (.astore 4, 2) := by decide +kernel
theorem dL_mark_15 : decode cL_mark 15 = .ok (.iconst 1, 1) := by decide +kernel
theorem dL_mark_16 : decode cL_mark 16 = .ok (.ireturn, 1) := by decide +kernel
theorem dL_mark_17 : decode cL_mark 17 = .ok (.astore 4, 2) := by decide +kernel
theorem dL_mark_19 : decode cL_mark 19 = .ok (.iconst 2, 1) := by decide +kernel
theorem dL_mark_20 : decode cL_mark 20 = .ok (.ireturn, 1) := by decide +kernel
theorem dL_mark_21 : decode cL_mark 21 = .ok (.iconst 0, 1) := by decide +kernel
theorem dL_mark_22 : decode cL_mark 22 = .ok (.ireturn, 1) := by decide +kernel
set_option maxRecDepth 100000 in
theorem ggL_title_X10_title : GoodIn wsL_title wsX10_title := goodIn_ca (goodIn_ca (goodIn_r _ [7, 8, 9, 10, 11, 12, 13, 6, 14, 15, 16, 17, 18, 19, 20, 21, 22, 23, 24, 25, 26, 27, 28, 29, 30, 31, 32, 33, 34, 35, 36, 37, 38, 39, 40, 41, 42, 43, 44, 45, 46, 47, 48, 49, 50, 51, 52, 53, 54, 55, 56, 57, 58, 59, 60, 61, 62, 63, 64, 65, 66, 67, 68, 69, 70, 71, 72, 73, 74, 75, 76, 77, 78, 79, 80, 81, 82, 83, 84, 85, 86, 87, 88, 89, 90, 91, 92, 93, 94, 95, 96, 97, 98, 99, 100, 101, 102, 103, 104, 105, 106, 107, 108, 109, 110, 111, 112, 113, 114, 115, 116, 117, 118, 119, 120, 121, 122, 123, 124, 125, 126, 127, 128, 129, 130, 131, 132, 133, 134, 135, 136, 137, 138, 139, 140, 141, 142, 143, 144, 145, 146, 147, 148, 149, 150, 151, 152, 153, 154, 155, 156, 157, 158, 159, 160, 161, 162, 163, 164, 165, 166, 167, 168, 169, 170, 171, 172, 173, 174, 175, 176, 177, 178, 179, 180, 181, 182, 183, 184, 185, 186, 187, 188, 189, 190, 191, 192, 193, 194, 195, 196, 197, 198, 199, 200, 201, 202, 203, 204, 205, 206, 207, 208, 209, 210, 211, 212, 213, 214, 215, 216, 217, 218, 219, 220, 221, 222, 223, 224, 225, 226, 227, 228, 229, 230, 231, 232, 233, 234, 235, 236, 237, 238, 239, 240, 241, 242, 243, 244, 245, 246, 247, 248, 249, 250, 251, 252] rfl (by decide +kernel)) (goodIn_sub (fun _ h => List.mem_cons_of_mem _ (List.mem_append_left _ (List.mem_append_right _ h))) (by decide +kernel))) (goodIn_sub (fun _ h => List.mem_cons_of_mem _ (List.mem_append_right _ h)) (by decide +kernel))
set_option maxRecDepth 100000 in
theorem gL_title_X10_title : GoodIn wsL_title (wsV RL 99 RX10 yX10_title wsX10_title) := goodIn_app (goodIn_of _ (by decide +kernel)) ggL_title_X10_title
theorem dL_title_0 : decode cL_title 0 = .ok (.aload_n 3, 1) := by decide +kernel
theorem dL_title_1 : decode cL_title 1 = .ok (.iconst 0, 1) := by decide +kernel
theorem dL_title_2 : decode cL_title 2 = .ok (.aload_n 0, 1) := by decide +kernel
theorem dL_title_3 : decode cL_title 3 = .ok (.iload_n 1, 1) := by decide +kernel
theorem dL_title_4 : decode cL_title 4 = .ok (.iload_n 2, 1) := by decide +kernel
theorem dL_title_5 : decode cL_title 5 = .ok (.invokevirtual 99, 3) := by decide +kernel
theorem dL_title_8 : decode cL_title 8 = .ok (.i2l, 1) := by decide +kernel
theorem dL_title_9 : decode cL_title 9 = .ok (.lastore, 1) := by decide +kernel
theorem dL_title_10 : decode cL_title 10 = .ok (.goto 11, 3) := by decide +kernel
theorem dL_title_13 : decode cL_title 13 = .ok (.astore 4, 2) := by decide +kernel
theorem dL_title_15 : decode cL_title 15 = .ok (.iconst 1, 1) := by decide +kernel
theorem dL_title_16 : decode cL_title 16 = .ok (.ireturn, 1) := by decide +kernel
theorem dL_title_17 : decode cL_title 17 = .ok (.astore 4, 2) := by decide +kernel
theorem dL_title_19 : decode cL_title 19 = .ok (.iconst 2, 1) := by decide +kernel
theorem dL_title_20 : decode cL_title 20 = .ok (.ireturn, 1) := by decide +kernel
theorem dL_title_21 : decode cL_title 21 = .ok (.iconst 0, 1) := by decide +kernel
theorem dL_title_22 : decode cL_title 22 = .ok (.ireturn, 1) := by decide +kernel
set_option maxRecDepth 100000 in
theorem ggL_addSlot_X10_addSlot : GoodIn wsL_addSlot wsX10_addSlot := goodIn_ca (goodIn_ca (goodIn_r _ [7, 8, 9, 10, 11, 12, 13, 14, 15, 6, 16, 17, 18, 19, 20, 21, 22, 23, 24, 25, 26, 27, 28, 29, 30, 31, 32, 33, 34, 35, 36, 37, 38, 39, 40, 41, 42, 43, 44, 45, 46, 47, 48, 49, 50, 51, 52, 53, 54, 55, 56, 57, 58, 59, 60, 61, 62, 63, 64, 65, 66, 67, 68, 69, 70, 71, 72, 73, 74, 75, 76, 77, 78, 79, 80, 81, 82, 83, 84, 85, 86, 87, 88, 89, 90, 91, 92, 93, 94, 95, 96, 97, 98, 99, 100, 101, 102, 103, 104, 105, 106, 107, 108, 109, 110, 111, 112, 113, 114, 115, 116, 117, 118, 119, 120, 121, 122] rfl (by decide +kernel)) (goodIn_sub (fun _ h => List.mem_cons_of_mem _ (List.mem_append_left _ (List.mem_append_right _ h))) (by decide +kernel))) (goodIn_sub (fun _ h => List.mem_cons_of_mem _ (List.mem_append_right _ h)) (by decide +kernel))
set_option maxRecDepth 100000 in
theorem gL_addSlot_X10_addSlot : GoodIn wsL_addSlot (wsV RL 102 RX10 yX10_addSlot wsX10_addSlot) := goodIn_app (goodIn_of _ (by decide +kernel)) ggL_addSlot_X10_addSlot
theorem dL_addSlot_0 : decode cL_addSlot 0 = .ok (.aload 4, 2) := by decide +kernel
theorem dL_addSlot_2 : decode cL_addSlot 2 = .ok (.iconst 0, 1) := by decide +kernel
theorem dL_addSlot_3 : decode cL_addSlot 3 = .ok (.aload_n 0, 1) := by decide +kernel
theorem dL_addSlot_4 : decode cL_addSlot 4 = .ok (.iload_n 1, 1) := by decide +kernel
theorem dL_addSlot_5 : decode cL_addSlot 5 = .ok (.iload_n 2, 1) := by decide +kernel
theorem dL_addSlot_6 : decode cL_addSlot 6 = .ok (.iload_n 3, 1) := by decide +kernel
theorem dL_addSlot_7 : decode cL_addSlot 7 = .ok (.invokevirtual 102, 3) := by decide +kernel
theorem dL_addSlot_10 : decode cL_addSlot 10 = .ok (.i2l, 1) := by decide +kernel
theorem dL_addSlot_11 : decode cL_addSlot 11 = .ok (.lastore, 1) := by decide +kernel
theorem dL_addSlot_12 : decode cL_addSlot 12 = .ok (.goto 11, 3) := by decide +kernel
theorem dL_addSlot_15 : decode cL_addSlot 15 = .ok (.astore 5, 2) := by decide +kernel
theorem dL_addSlot_17 : decode cL_addSlot 17 = .ok (.iconst 1, 1) := by decide +kernel
theorem dL_addSlot_18 : decode cL_addSlot 18 = .ok (.ireturn, 1) := by decide +kernel
theorem dL_addSlot_19 : decode cL_addSlot 19 = .ok (.astore 5, 2) := by decide +kernel
theorem dL_addSlot_21 : decode cL_addSlot 21 = .ok (.iconst 2, 1) := by decide +kernel
theorem dL_addSlot_22 : decode cL_addSlot 22 = .ok (.ireturn, 1) := by decide +kernel
theorem dL_addSlot_23 : decode cL_addSlot 23 = .ok (.iconst 0, 1) := by decide +kernel
theorem dL_addSlot_24 : decode cL_addSlot 24 = .ok (.ireturn, 1) := by decide +kernel
set_option maxRecDepth 100000 in
theorem ggL_removeSlot_X10_removeSlot : GoodIn wsL_removeSlot wsX10_removeSlot := goodIn_ca (goodIn_r _ [6, 7, 8, 9, 10, 11, 12, 5, 13, 14, 15, 16, 17, 18, 19, 20, 21, 22, 23, 24, 25, 26, 27, 28, 29, 30, 31, 32, 33, 34, 35, 36, 37, 38, 39, 40, 41, 42, 43, 44, 45, 46, 47, 48, 49, 50, 51, 52, 53, 54, 55, 56, 57, 58, 59, 60, 61, 62, 63, 64, 65, 66, 67, 68, 69, 70, 71, 72, 73, 74, 75, 76, 77, 78, 79, 80, 81, 82, 83, 84, 85, 86, 87, 88, 89, 90, 91, 92, 93, 94, 95, 96, 97, 98, 99, 100, 101, 102, 103, 104, 105, 106, 107, 108, 109, 110, 111, 112, 113, 114, 115, 116, 117, 118, 119] rfl (by decide +kernel)) (goodIn_sub (fun _ h => List.mem_cons_of_mem _ (List.mem_append_right _ h)) (by decide +kernel))
set_option maxRecDepth 100000 in
theorem gL_removeSlot_X10_removeSlot : GoodIn wsL_removeSlot (wsV RL 105 RX10 yX10_removeSlot wsX10_removeSlot) := goodIn_app (goodIn_of _ (by decide +kernel)) ggL_removeSlot_X10_removeSlot
theorem dL_removeSlot_0 : decode cL_removeSlot 0 = .ok (.aload_n 2, 1) := by decide +kernel
theorem dL_removeSlot_1 : decode cL_removeSlot 1 = .ok (.iconst 0, 1) := by decide +kernel
theorem dL_removeSlot_2 : decode cL_removeSlot 2 = .ok (.aload_n 0, 1) := by decide +kernel
theorem dL_removeSlot_3 : decode cL_removeSlot 3 = .ok (.iload_n 1, 1) := by decide +kernel
theorem dL_removeSlot_4 : decode cL_removeSlot 4 = .ok (.invokevirtual 105, 3) := by decide +kernel
theorem dL_removeSlot_7 : decode cL_removeSlot 7 = .ok (.i2l, 1) := by decide +kernel
theorem dL_removeSlot_8 : decode cL_removeSlot 8 = .ok (.lastore, 1) := by decide +kernel
theorem dL_removeSlot_9 : decode cL_removeSlot 9 = .ok (.goto 6, 3) := by decide +kernel
theorem dL_removeSlot_12 : decode cL_removeSlot 12 = .ok (.astore_n 3, 1) := by decide +kernel
theorem dL_removeSlot_13 : decode cL_removeSlot 13 = .ok (.iconst 1, 1) := by decide +kernel
theorem dL_removeSlot_14 : decode cL_removeSlot 14 = .ok (.ireturn, 1) := by decide +kernel
theorem dL_removeSlot_15 : decode cL_removeSlot 15 = .ok (.iconst 0, 1) := by decide +kernel
theorem dL_removeSlot_16 : decode cL_removeSlot 16 = .ok (.ireturn, 1) := by decide +kernel
set_option maxRecDepth 100000 in
theorem ggL_moveSlot_X10_moveSlot : GoodIn wsL_moveSlot wsX10_moveSlot := goodIn_ca (goodIn_ca (goodIn_r _ [7, 8, 9, 10, 11, 12, 13, 14, 6, 15, 16, 17, 18, 19, 20, 21, 22, 23, 24, 25, 26, 27, 28, 29, 30, 31, 32, 33, 34, 35, 36, 37, 38, 39, 40, 41, 42, 43, 44, 45, 46, 47, 48, 49, 50, 51, 52, 53, 54, 55, 56, 57, 58, 59, 60, 61, 62, 63, 64, 65, 66, 67, 68, 69, 70, 71, 72, 73, 74, 75, 76, 77, 78, 79, 80, 81, 82, 83, 84, 85, 86, 87, 88, 89, 90, 91, 92, 93, 94, 95, 96, 97, 98, 99, 100, 101, 102, 103, 104, 105, 106, 107, 108, 109, 110, 111, 112, 113, 114, 115, 116, 117, 118, 119, 120, 121, 122, 123, 124, 125, 126, 127, 128, 129, 130, 131, 132] rfl (by decide +kernel)) (goodIn_sub (fun _ h => List.mem_cons_of_mem _ (List.mem_append_left _ (List.mem_append_right _ h))) (by decide +kernel))) (goodIn_sub (fun _ h => List.mem_cons_of_mem _ (List.mem_append_right _ h)) (by decide +kernel))
set_option maxRecDepth 100000 in
theorem gL_moveSlot_X10_moveSlot : GoodIn wsL_moveSlot (wsV RL 108 RX10 yX10_moveSlot wsX10_moveSlot) := goodIn_app (goodIn_of _ (by decide +kernel)) ggL_moveSlot_X10_moveSlot
theorem dL_moveSlot_0 : decode cL_moveSlot 0 = .ok (.aload_n 3, 1) := by decide +kernel
theorem dL_moveSlot_1 : decode cL_moveSlot 1 = .ok (.iconst 0, 1) := by decide +kernel
theorem dL_moveSlot_2 : decode cL_moveSlot 2 = .ok (.aload_n 0, 1) := by decide +kernel
theorem dL_moveSlot_3 : decode cL_moveSlot 3 = .ok (.iload_n 1, 1) := by decide +kernel
theorem dL_moveSlot_4 : decode cL_moveSlot 4 = .ok (.iload_n 2, 1) := by decide +kernel
theorem dL_moveSlot_5 : decode cL_moveSlot 5 = .ok (.invokevirtual 108, 3) := by decide +kernel
theorem dL_moveSlot_8 : decode cL_moveSlot 8 = .ok (.i2l, 1) := by decide +kernel
theorem dL_moveSlot_9 : decode cL_moveSlot 9 = .ok (.lastore, 1) := by decide +kernel
theorem dL_moveSlot_10 : decode cL_moveSlot 10 = .ok (.goto 11, 3) := by decide +kernel
theorem dL_moveSlot_13 : decode cL_moveSlot 13 = .ok (.astore 4, 2) := by decide +kernel
theorem dL_moveSlot_15 : decode cL_moveSlot 15 = .ok (.iconst 1, 1) := by decide +kernel
theorem dL_moveSlot_16 : decode cL_moveSlot 16 = .ok (.ireturn, 1) := by decide +kernel
theorem dL_moveSlot_17 : decode cL_moveSlot 17 = .ok (.astore 4, 2) := by decide +kernel
theorem dL_moveSlot_19 : decode cL_moveSlot 19 = .ok (.iconst 2, 1) := by decide +kernel
theorem dL_moveSlot_20 : decode cL_moveSlot 20 = .ok (.ireturn, 1) := by decide +kernel
theorem dL_moveSlot_21 : decode cL_moveSlot 21 = .ok (.iconst 0, 1) := by decide +kernel
theorem dL_moveSlot_22 : decode cL_moveSlot 22 = .ok (.ireturn, 1) := by decide +kernel
set_option maxRecDepth 100000 in
theorem ggL_slot_X10_slot : GoodIn wsL_slot wsX10_slot := goodIn_ca (goodIn_ca (goodIn_r _ [7, 8, 9, 10, 11, 12, 13, 14, 15, 16, 17, 6, 18, 19, 20, 21, 22, 23, 24, 25, 26, 27, 28, 29, 30, 31, 32, 33, 34, 35, 36, 37] rfl (by decide +kernel)) (goodIn_sub (fun _ h => List.mem_cons_of_mem _ (List.mem_append_left _ (List.mem_append_right _ h))) (by decide +kernel))) (goodIn_sub (fun _ h => List.mem_cons_of_mem _ (List.mem_append_right _ h)) (by decide +kernel))
set_option maxRecDepth 100000 in
theorem gL_slot_X10_slot : GoodIn wsL_slot (wsV RL 111 RX10 yX10_slot wsX10_slot) := goodIn_app (goodIn_of _ (by decide +kernel)) ggL_slot_X10_slot
theorem dL_slot_0 : decode cL_slot 0 = .ok (.aload_n 3, 1) := by decide +kernel
theorem dL_slot_1 : decode cL_slot 1 = .ok (.iconst 0, 1) := by decide +kernel
theorem dL_slot_2 : decode cL_slot 2 = .ok (.aload_n 0, 1) := by decide +kernel
theorem dL_slot_3 : decode cL_slot 3 = .ok (.iload_n 1, 1) := by decide +kernel
theorem dL_slot_4 : decode cL_slot 4 = .ok (.iload_n 2, 1) := by decide +kernel
theorem dL_slot_5 : decode cL_slot 5 = .ok (.invokevirtual 111, 3) := by decide +kernel
theorem dL_slot_8 : decode cL_slot 8 = .ok (.i2l, 1) := by decide +kernel
theorem dL_slot_9 : decode cL_slot 9 = .ok (.lastore, 1) := by decide +kernel
theorem dL_slot_10 : decode cL_slot 10 = .ok (.goto 11, 3) := by decide +kernel
theorem dL_slot_13 : decode cL_slot 13 = .ok (.astore 4, 2) := by decide +kernel
theorem dL_slot_15 : decode cL_slot 15 = .ok (.iconst 1, 1) := by decide +kernel
theorem dL_slot_16 : decode cL_slot 16 = .ok (.ireturn, 1) := by decide +kernel
theorem dL_slot_17 : decode cL_slot 17 = .ok (.astore 4, 2) := by decide +kernel
theorem dL_slot_19 : decode cL_slot 19 = .ok (.iconst 2, 1) := by decide +kernel
theorem dL_slot_20 : decode cL_slot 20 = .ok (.ireturn, 1) := by decide +kernel
theorem dL_slot_21 : decode cL_slot 21 = .ok (.iconst 0, 1) := by decide +kernel
theorem dL_slot_22 : decode cL_slot 22 = .ok (.ireturn, 1) := by decide +kernel
set_option maxRecDepth 100000 in
theorem ggL_placeOf_X10_placeOf : GoodIn wsL_placeOf wsX10_placeOf := goodIn_ca (goodIn_r _ [6, 7, 8, 9, 10, 11, 12, 5, 13, 14, 15, 16, 17, 18, 19, 20, 21, 22, 23, 24, 25, 26, 27, 28, 29, 30, 31, 32, 33, 34, 35, 36, 37, 38, 39, 40, 41, 42, 43, 44, 45, 46, 47, 48, 49, 50, 51, 52, 53, 54, 55, 56, 57, 58, 59, 60, 61, 62, 63, 64, 65, 66, 67, 68, 69, 70, 71, 72, 73, 74, 75, 76, 77, 78, 79, 80, 81, 82, 83, 84, 85, 86, 87, 88, 89, 90, 91, 92, 93, 94, 95, 96, 97, 98, 99, 100, 101, 102, 103, 104, 105, 106, 107, 108, 109, 110, 111, 112, 113, 114, 115, 116, 117, 118, 119, 120, 121, 122, 123, 124, 125, 126, 127, 128, 129, 130, 131, 132, 133, 134, 135, 136, 137, 138, 139, 140, 141, 142, 143, 144, 145, 146, 147, 148, 149, 150, 151, 152, 153, 154, 155, 156, 157, 158, 159, 160, 161, 162, 163, 164, 165, 166, 167, 168, 169, 170, 171, 172, 173, 174, 175, 176, 177, 178, 179, 180, 181, 182, 183, 184, 185, 186, 187, 188, 189, 190, 191, 192, 193, 194, 195, 196, 197, 198, 199, 200, 201, 202, 203, 204, 205, 206, 207, 208, 209, 210, 211, 212, 213, 214, 215, 216, 217, 218, 219, 220, 221, 222, 223, 224, 225, 226, 227, 228] rfl (by decide +kernel)) (goodIn_sub (fun _ h => List.mem_cons_of_mem _ (List.mem_append_right _ h)) (by decide +kernel))
set_option maxRecDepth 100000 in
theorem gL_placeOf_X10_placeOf : GoodIn wsL_placeOf (wsV RL 114 RX10 yX10_placeOf wsX10_placeOf) := goodIn_app (goodIn_of _ (by decide +kernel)) ggL_placeOf_X10_placeOf
theorem dL_placeOf_0 : decode cL_placeOf 0 = .ok (.aload_n 2, 1) := by decide +kernel
theorem dL_placeOf_1 : decode cL_placeOf 1 = .ok (.iconst 0, 1) := by decide +kernel
theorem dL_placeOf_2 : decode cL_placeOf 2 = .ok (.aload_n 0, 1) := by decide +kernel
theorem dL_placeOf_3 : decode cL_placeOf 3 = .ok (.iload_n 1, 1) := by decide +kernel
theorem dL_placeOf_4 : decode cL_placeOf 4 = .ok (.invokevirtual 114, 3) := by decide +kernel
theorem dL_placeOf_7 : decode cL_placeOf 7 = .ok (.i2l, 1) := by decide +kernel
theorem dL_placeOf_8 : decode cL_placeOf 8 = .ok (.lastore, 1) := by decide +kernel
theorem dL_placeOf_9 : decode cL_placeOf 9 = .ok (.goto 6, 3) := by decide +kernel
theorem dL_placeOf_12 : decode cL_placeOf 12 = .ok (.astore_n 3, 1) := by decide +kernel
theorem dL_placeOf_13 : decode cL_placeOf 13 = .ok (.iconst 1, 1) := by decide +kernel
theorem dL_placeOf_14 : decode cL_placeOf 14 = .ok (.ireturn, 1) := by decide +kernel
theorem dL_placeOf_15 : decode cL_placeOf 15 = .ok (.iconst 0, 1) := by decide +kernel
theorem dL_placeOf_16 : decode cL_placeOf 16 = .ok (.ireturn, 1) := by decide +kernel
set_option maxRecDepth 100000 in
theorem ggL_choices_X10_choices : GoodIn wsL_choices wsX10_choices := goodIn_ca (goodIn_r _ [6, 7, 8, 9, 10, 11, 5, 12, 13, 14, 15, 16, 17, 18, 19, 20, 21, 22, 23, 24, 25, 26, 27, 28, 29, 30, 31, 32, 33, 34, 35, 36, 37, 38, 39, 40, 41, 42, 43, 44, 45, 46, 47, 48, 49, 50, 51, 52, 53, 54, 55, 56, 57, 58, 59, 60, 61, 62, 63, 64, 65, 66, 67, 68, 69, 70, 71, 72, 73, 74, 75, 76, 77, 78, 79, 80, 81, 82, 83, 84, 85, 86, 87, 88, 89, 90, 91, 92, 93, 94, 95, 96, 97, 98, 99, 100, 101, 102, 103, 104, 105, 106, 107, 108, 109, 110, 111, 112, 113, 114, 115, 116, 117, 118, 119, 120, 121, 122, 123, 124, 125, 126, 127, 128, 129, 130, 131, 132, 133, 134, 135, 136, 137, 138, 139, 140, 141, 142, 143, 144, 145, 146, 147, 148, 149, 150, 151, 152, 153, 154, 155, 156, 157, 158, 159, 160, 161, 162, 163, 164, 165, 166, 167, 168, 169, 170, 171, 172, 173, 174, 175, 176, 177, 178, 179, 180, 181, 182, 183, 184, 185, 186, 187, 188, 189, 190, 191, 192, 193, 194, 195, 196, 197, 198, 199, 200, 201, 202, 203, 204, 205, 206, 207, 208, 209, 210, 211, 212, 213, 214, 215, 216, 217, 218, 219, 220, 221, 222, 223, 224, 225, 226, 227, 228, 229, 230] rfl (by decide +kernel)) (goodIn_sub (fun _ h => List.mem_cons_of_mem _ (List.mem_append_right _ h)) (by decide +kernel))
set_option maxRecDepth 100000 in
theorem gL_choices_X10_choices : GoodIn wsL_choices (wsV RL 117 RX10 yX10_choices wsX10_choices) := goodIn_app (goodIn_of _ (by decide +kernel)) ggL_choices_X10_choices
theorem dL_choices_0 : decode cL_choices 0 = .ok (.aload_n 2, 1) := by decide +kernel
theorem dL_choices_1 : decode cL_choices 1 = .ok (.iconst 0, 1) := by decide +kernel
theorem dL_choices_2 : decode cL_choices 2 = .ok (.aload_n 0, 1) := by decide +kernel
theorem dL_choices_3 : decode cL_choices 3 = .ok (.iload_n 1, 1) := by decide +kernel
theorem dL_choices_4 : decode cL_choices 4 = .ok (.invokevirtual 117, 3) := by decide +kernel
theorem dL_choices_7 : decode cL_choices 7 = .ok (.i2l, 1) := by decide +kernel
theorem dL_choices_8 : decode cL_choices 8 = .ok (.lastore, 1) := by decide +kernel
theorem dL_choices_9 : decode cL_choices 9 = .ok (.goto 6, 3) := by decide +kernel
theorem dL_choices_12 : decode cL_choices 12 = .ok (.astore_n 3, 1) := by decide +kernel
theorem dL_choices_13 : decode cL_choices 13 = .ok (.iconst 1, 1) := by decide +kernel
theorem dL_choices_14 : decode cL_choices 14 = .ok (.ireturn, 1) := by decide +kernel
theorem dL_choices_15 : decode cL_choices 15 = .ok (.iconst 0, 1) := by decide +kernel
theorem dL_choices_16 : decode cL_choices 16 = .ok (.ireturn, 1) := by decide +kernel
set_option maxRecDepth 100000 in
theorem ggL_carried_X10_carried : GoodIn wsL_carried wsX10_carried := goodIn_ca (goodIn_ca (goodIn_r _ [7, 8, 9, 10, 11, 12, 13, 14, 15, 16, 17, 6, 18, 19, 20, 21, 22, 23, 24, 25, 26, 27, 28, 29, 30, 31, 32, 33, 34, 35, 36, 37, 38, 39, 40, 41, 42, 43, 44, 45, 46, 47, 48, 49, 50, 51, 52, 53, 54, 55, 56, 57, 58, 59, 60, 61, 62, 63, 64, 65, 66, 67, 68, 69, 70, 71, 72, 73, 74, 75, 76, 77, 78, 79, 80] rfl (by decide +kernel)) (goodIn_sub (fun _ h => List.mem_cons_of_mem _ (List.mem_append_left _ (List.mem_append_right _ h))) (by decide +kernel))) (goodIn_sub (fun _ h => List.mem_cons_of_mem _ (List.mem_append_right _ h)) (by decide +kernel))
set_option maxRecDepth 100000 in
theorem gL_carried_X10_carried : GoodIn wsL_carried (wsV RL 120 RX10 yX10_carried wsX10_carried) := goodIn_app (goodIn_of _ (by decide +kernel)) ggL_carried_X10_carried
theorem dL_carried_0 : decode cL_carried 0 = .ok (.aload_n 2, 1) := by decide +kernel
theorem dL_carried_1 : decode cL_carried 1 = .ok (.iconst 0, 1) := by decide +kernel
theorem dL_carried_2 : decode cL_carried 2 = .ok (.aload_n 0, 1) := by decide +kernel
theorem dL_carried_3 : decode cL_carried 3 = .ok (.iload_n 1, 1) := by decide +kernel
theorem dL_carried_4 : decode cL_carried 4 = .ok (.invokevirtual 120, 3) := by decide +kernel
theorem dL_carried_7 : decode cL_carried 7 = .ok (.i2l, 1) := by decide +kernel
theorem dL_carried_8 : decode cL_carried 8 = .ok (.lastore, 1) := by decide +kernel
theorem dL_carried_9 : decode cL_carried 9 = .ok (.goto 9, 3) := by decide +kernel
theorem dL_carried_12 : decode cL_carried 12 = .ok (.astore_n 3, 1) := by decide +kernel
theorem dL_carried_13 : decode cL_carried 13 = .ok (.iconst 1, 1) := by decide +kernel
theorem dL_carried_14 : decode cL_carried 14 = .ok (.ireturn, 1) := by decide +kernel
theorem dL_carried_15 : decode cL_carried 15 = .ok (.astore_n 3, 1) := by decide +kernel
theorem dL_carried_16 : decode cL_carried 16 = .ok (.iconst 2, 1) := by decide +kernel
theorem dL_carried_17 : decode cL_carried 17 = .ok (.ireturn, 1) := by decide +kernel
theorem dL_carried_18 : decode cL_carried 18 = .ok (.iconst 0, 1) := by decide +kernel
theorem dL_carried_19 : decode cL_carried 19 = .ok (.ireturn, 1) := by decide +kernel
set_option maxRecDepth 100000 in
theorem ggL_writeChapters_X10_writeChapters : GoodIn wsL_writeChapters wsX10_writeChapters := goodIn_ca (goodIn_r _ [6, 7, 8, 9, 10, 11, 12, 13, 14, 15, 16, 5, 17, 18, 19, 20, 21, 22, 23, 24, 25, 26, 27, 28, 29, 30, 31, 32, 33, 34, 35, 36, 37, 38, 39, 40, 41, 42, 43, 44, 45, 46, 47, 48, 49, 50, 51, 52, 53, 54, 55, 56, 57, 58, 59, 60, 61, 62, 63, 64, 65, 66, 67, 68, 69, 70, 71, 72, 73, 74, 75, 76, 77, 78, 79, 80, 81, 82, 83, 84, 85, 86, 87, 88, 89, 90, 91, 92, 93, 94, 95, 96, 97, 98, 99, 100, 101, 102, 103, 104, 105, 106, 107, 108, 109, 110, 111, 112, 113, 114, 115, 116, 117, 118, 119, 120, 121, 122, 123, 124, 125, 126, 127, 128, 129, 130, 131, 132, 133, 134, 135, 136, 137, 138, 139, 140, 141, 142, 143, 144, 145, 146, 147, 148, 149, 150, 151, 152, 153, 154, 155, 156, 157, 158, 159, 160, 161, 162, 163, 164, 165, 166, 167, 168, 169, 170, 171, 172, 173, 174, 175, 176, 177, 178, 179, 180, 181, 182, 183, 184, 185, 186, 187, 188, 189, 190, 191, 192, 193, 194, 195, 196, 197, 198, 199, 200, 201, 202, 203, 204, 205, 206, 207, 208, 209, 210, 211, 212, 213, 214, 215, 216, 217, 218, 219, 220, 221, 222, 223, 224, 225, 226, 227, 228, 229, 230, 231, 232, 233, 234, 235, 236, 237, 238, 239, 240, 241, 242, 243, 244, 245, 246, 247, 248, 249, 250, 251, 252, 253, 254, 255, 256, 257, 258, 259, 260, 261, 262, 263, 264, 265, 266, 267, 268, 269, 270, 271, 272, 273, 274, 275, 276, 277, 278, 279, 280, 281, 282, 283, 284, 285, 286, 287] rfl (by decide +kernel)) (goodIn_sub (fun _ h => List.mem_cons_of_mem _ (List.mem_append_right _ h)) (by decide +kernel))
set_option maxRecDepth 100000 in
theorem gL_writeChapters_X10_writeChapters : GoodIn wsL_writeChapters (wsV RL 123 RX10 yX10_writeChapters wsX10_writeChapters) := goodIn_app (goodIn_of _ (by decide +kernel)) ggL_writeChapters_X10_writeChapters
theorem dL_writeChapters_0 : decode cL_writeChapters 0 = .ok (.aload_n 1, 1) := by decide +kernel
theorem dL_writeChapters_1 : decode cL_writeChapters 1 = .ok (.iconst 0, 1) := by decide +kernel
theorem dL_writeChapters_2 : decode cL_writeChapters 2 = .ok (.aload_n 0, 1) := by decide +kernel
theorem dL_writeChapters_3 : decode cL_writeChapters 3 = .ok (.invokevirtual 123, 3) := by decide +kernel
theorem dL_writeChapters_6 : decode cL_writeChapters 6 = .ok (.i2l, 1) := by decide +kernel
theorem dL_writeChapters_7 : decode cL_writeChapters 7 = .ok (.lastore, 1) := by decide +kernel
theorem dL_writeChapters_8 : decode cL_writeChapters 8 = .ok (.goto 6, 3) := by decide +kernel
theorem dL_writeChapters_11 : decode cL_writeChapters 11 = .ok (.astore_n 2, 1) := by decide +kernel
theorem dL_writeChapters_12 : decode cL_writeChapters 12 = .ok (.iconst 1, 1) := by decide +kernel
theorem dL_writeChapters_13 : decode cL_writeChapters 13 = .ok (.ireturn, 1) := by decide +kernel
theorem dL_writeChapters_14 : decode cL_writeChapters 14 = .ok (.iconst 0, 1) := by decide +kernel
theorem dL_writeChapters_15 : decode cL_writeChapters 15 = .ok (.ireturn, 1) := by decide +kernel
set_option maxRecDepth 100000 in
theorem ggL_writtenByte_X10_writtenByte : GoodIn wsL_writtenByte wsX10_writtenByte := goodIn_ca (goodIn_r _ [6, 7, 8, 9, 10, 11, 12, 13, 14, 15, 16, 17, 18, 19, 20, 21] rfl (by decide +kernel)) (goodIn_sub (fun _ h => List.mem_cons_of_mem _ (List.mem_append_right _ h)) (by decide +kernel))
set_option maxRecDepth 100000 in
theorem gL_writtenByte_X10_writtenByte : GoodIn wsL_writtenByte (wsV RL 126 RX10 yX10_writtenByte wsX10_writtenByte) := goodIn_app (goodIn_of _ (by decide +kernel)) ggL_writtenByte_X10_writtenByte
theorem dL_writtenByte_0 : decode cL_writtenByte 0 = .ok (.aload_n 2, 1) := by decide +kernel
theorem dL_writtenByte_1 : decode cL_writtenByte 1 = .ok (.iconst 0, 1) := by decide +kernel
theorem dL_writtenByte_2 : decode cL_writtenByte 2 = .ok (.aload_n 0, 1) := by decide +kernel
theorem dL_writtenByte_3 : decode cL_writtenByte 3 = .ok (.iload_n 1, 1) := by decide +kernel
theorem dL_writtenByte_4 : decode cL_writtenByte 4 = .ok (.invokevirtual 126, 3) := by decide +kernel
theorem dL_writtenByte_7 : decode cL_writtenByte 7 = .ok (.i2l, 1) := by decide +kernel
theorem dL_writtenByte_8 : decode cL_writtenByte 8 = .ok (.lastore, 1) := by decide +kernel
theorem dL_writtenByte_9 : decode cL_writtenByte 9 = .ok (.goto 6, 3) := by decide +kernel
theorem dL_writtenByte_12 : decode cL_writtenByte 12 = .ok (.astore_n 3, 1) := by decide +kernel
theorem dL_writtenByte_13 : decode cL_writtenByte 13 = .ok (.iconst 1, 1) := by decide +kernel
theorem dL_writtenByte_14 : decode cL_writtenByte 14 = .ok (.ireturn, 1) := by decide +kernel
theorem dL_writtenByte_15 : decode cL_writtenByte 15 = .ok (.iconst 0, 1) := by decide +kernel
theorem dL_writtenByte_16 : decode cL_writtenByte 16 = .ok (.ireturn, 1) := by decide +kernel
set_option maxRecDepth 100000 in
theorem ggL_undo_X10_undo : GoodIn wsL_undo wsX10_undo := goodIn_ca (goodIn_r _ [6, 7, 8, 9, 10, 11, 12, 13, 14, 15, 16, 17, 18, 19, 20, 21, 22, 23, 24, 25, 26, 27, 28, 29, 30, 31, 32, 33, 34, 35, 36, 37, 38, 39, 40, 41, 42, 43, 44, 45, 46, 47, 48, 49, 50, 51, 52, 53, 54, 55, 56, 57, 58, 59, 60, 61, 62, 63, 64, 65, 66, 67, 68, 69, 70, 71, 72, 73, 74, 75, 76, 77, 78, 79, 80, 81, 82, 83, 84, 85, 86, 87, 88, 89, 90, 91, 92, 93, 94, 95, 96, 97, 98, 99, 100, 101, 102] rfl (by decide +kernel)) (goodIn_sub (fun _ h => List.mem_cons_of_mem _ (List.mem_append_right _ h)) (by decide +kernel))
set_option maxRecDepth 100000 in
theorem gL_undo_X10_undo : GoodIn wsL_undo (wsV RL 129 RX10 yX10_undo wsX10_undo) := goodIn_app (goodIn_of _ (by decide +kernel)) ggL_undo_X10_undo
theorem dL_undo_0 : decode cL_undo 0 = .ok (.aload_n 1, 1) := by decide +kernel
theorem dL_undo_1 : decode cL_undo 1 = .ok (.iconst 0, 1) := by decide +kernel
theorem dL_undo_2 : decode cL_undo 2 = .ok (.aload_n 0, 1) := by decide +kernel
theorem dL_undo_3 : decode cL_undo 3 = .ok (.invokevirtual 129, 3) := by decide +kernel
theorem dL_undo_6 : decode cL_undo 6 = .ok (.i2l, 1) := by decide +kernel
theorem dL_undo_7 : decode cL_undo 7 = .ok (.lastore, 1) := by decide +kernel
theorem dL_undo_8 : decode cL_undo 8 = .ok (.goto 6, 3) := by decide +kernel
theorem dL_undo_11 : decode cL_undo 11 = .ok (.astore_n 2, 1) := by decide +kernel
theorem dL_undo_12 : decode cL_undo 12 = .ok (.iconst 1, 1) := by decide +kernel
theorem dL_undo_13 : decode cL_undo 13 = .ok (.ireturn, 1) := by decide +kernel
theorem dL_undo_14 : decode cL_undo 14 = .ok (.iconst 0, 1) := by decide +kernel
theorem dL_undo_15 : decode cL_undo 15 = .ok (.ireturn, 1) := by decide +kernel
