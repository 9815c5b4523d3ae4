set_option maxRecDepth 100000 in
theorem ggX10_init_X6_init : GoodIn wsX10_init wsX6_init := goodIn_r _ [34, 35, 2, 3, 36, 37, 38, 39, 40, 41, 42, 43, 44, 45, 46, 47, 48, 49, 50, 51, 52, 53, 54, 55, 56, 57, 58, 59, 60, 61, 62, 63, 64, 65, 66, 67, 68, 69, 70, 71, 72, 73, 74, 75, 76, 77, 168, 169, 170, 171, 172, 173, 174, 175, 121, 122, 123, 124, 176, 177, 178, 179, 180, 181, 182, 183, 184, 185] rfl (by decide +kernel)
set_option maxRecDepth 100000 in
theorem gX10_init_X6_init_n11 : GoodIn wsX10_init (wsX6_init) := ggX10_init_X6_init
set_option maxRecDepth 100000 in
theorem ggX10_init_X1_init : GoodIn wsX10_init wsX1_init := goodIn_r _ [80, 81, 2, 3, 82, 83, 5, 6, 33, 34, 35, 36, 37, 38, 39, 40, 41, 42, 43, 44, 45, 46, 47, 48, 49, 50, 51, 52, 53, 54, 55, 56, 57, 58, 59, 60, 61, 62, 63, 64, 65, 66, 67, 68, 69, 70, 71, 72, 73, 74, 75, 76, 77, 133, 134, 135, 121, 122, 123, 124, 168, 169, 170, 171, 172, 173, 174, 175, 176, 177, 178, 179, 180, 181, 182, 183, 184, 185] rfl (by decide +kernel)
set_option maxRecDepth 100000 in
theorem gX10_init_X1_init : GoodIn wsX10_init (wsX1_init) := ggX10_init_X1_init
set_option maxRecDepth 100000 in
theorem ggX10_init_X5_init : GoodIn wsX10_init wsX5_init := goodIn_r _ [85, 86, 2, 3, 87, 88, 5, 6, 89, 58, 90, 33, 34, 35, 36, 37, 38, 39, 40, 41, 42, 43, 44, 45, 46, 47, 48, 49, 50, 51, 52, 53, 54, 55, 56, 57, 59, 60, 61, 62, 63, 64, 65, 66, 67, 68, 69, 70, 71, 72, 73, 74, 75, 76, 77, 136, 137, 138, 139, 140, 141, 142, 121, 122, 123, 124, 168, 169, 170, 171, 172, 173, 174, 175, 176, 177, 178, 179, 180, 181, 182, 183, 184, 185] rfl (by decide +kernel)
set_option maxRecDepth 100000 in
theorem gX10_init_X5_init_n25 : GoodIn wsX10_init (wsX5_init) := ggX10_init_X5_init
set_option maxRecDepth 100000 in
theorem ggX10_init_X0_init : GoodIn wsX10_init wsX0_init := goodIn_r _ [92, 93, 2, 3, 58, 94, 95, 96, 97, 98, 99, 100, 64, 101, 102, 103, 143, 144, 145, 146, 147, 148, 149, 150, 151, 152, 153, 154, 155, 156, 157] rfl (by decide +kernel)
set_option maxRecDepth 100000 in
theorem gX10_init_X0_init_n32 : GoodIn wsX10_init (wsX0_init) := ggX10_init_X0_init
set_option maxRecDepth 100000 in
theorem ggX10_init_X4_init : GoodIn wsX10_init wsX4_init := goodIn_r _ [105, 106, 2, 3, 58, 107, 108, 109, 110, 111, 158, 159, 160, 161, 162, 163] rfl (by decide +kernel)
set_option maxRecDepth 100000 in
theorem gX10_init_X4_init_n39 : GoodIn wsX10_init (wsX4_init) := ggX10_init_X4_init
set_option maxRecDepth 100000 in
theorem ggX10_init_X8_init : GoodIn wsX10_init wsX8_init := goodIn_r _ [113, 114, 2, 3, 58, 115, 116, 164, 165] rfl (by decide +kernel)
set_option maxRecDepth 100000 in
theorem gX10_init_X8_init_n46 : GoodIn wsX10_init (wsX8_init) := ggX10_init_X8_init
set_option maxRecDepth 100000 in
theorem ggX10_init_X3_init : GoodIn wsX10_init wsX3_init := goodIn_r _ [118, 119, 2, 3, 58, 120, 166, 167] rfl (by decide +kernel)
set_option maxRecDepth 100000 in
theorem gX10_init_X3_init_n53 : GoodIn wsX10_init (wsX3_init) := ggX10_init_X3_init
theorem dX10_init_0 : decode cX10_init 0 = .ok (.aload_n 0, 1) := by decide +kernel
theorem dX10_init_1 : decode cX10_init 1 = .ok (.invokespecial 3, 3) := by decide +kernel
theorem dX10_init_4 : decode cX10_init 4 = .ok (.aload_n 0, 1) := by decide +kernel
theorem dX10_init_5 : decode cX10_init 5 = .ok (.new 9, 3) := by decide +kernel
theorem dX10_init_8 : decode cX10_init 8 = .ok (.dup, 1) := by decide +kernel
theorem dX10_init_9 : decode cX10_init 9 = .ok (.invokespecial 11, 3) := by decide +kernel
theorem dX10_init_12 : decode cX10_init 12 = .ok (.putfield 12, 3) := by decide +kernel
theorem dX10_init_15 : decode cX10_init 15 = .ok (.aload_n 0, 1) := by decide +kernel
theorem dX10_init_16 : decode cX10_init 16 = .ok (.new 16, 3) := by decide +kernel
theorem dX10_init_19 : decode cX10_init 19 = .ok (.dup, 1) := by decide +kernel
theorem dX10_init_20 : decode cX10_init 20 = .ok (.invokespecial 18, 3) := by decide +kernel
theorem dX10_init_23 : decode cX10_init 23 = .ok (.putfield 19, 3) := by decide +kernel
theorem dX10_init_26 : decode cX10_init 26 = .ok (.aload_n 0, 1) := by decide +kernel
theorem dX10_init_27 : decode cX10_init 27 = .ok (.new 23, 3) := by decide +kernel
theorem dX10_init_30 : decode cX10_init 30 = .ok (.dup, 1) := by decide +kernel
theorem dX10_init_31 : decode cX10_init 31 = .ok (.invokespecial 25, 3) := by decide +kernel
theorem dX10_init_34 : decode cX10_init 34 = .ok (.putfield 26, 3) := by decide +kernel
theorem dX10_init_37 : decode cX10_init 37 = .ok (.aload_n 0, 1) := by decide +kernel
theorem dX10_init_38 : decode cX10_init 38 = .ok (.new 30, 3) := by decide +kernel
theorem dX10_init_41 : decode cX10_init 41 = .ok (.dup, 1) := by decide +kernel
theorem dX10_init_42 : decode cX10_init 42 = .ok (.invokespecial 32, 3) := by decide +kernel
theorem dX10_init_45 : decode cX10_init 45 = .ok (.putfield 33, 3) := by decide +kernel
theorem dX10_init_48 : decode cX10_init 48 = .ok (.aload_n 0, 1) := by decide +kernel
theorem dX10_init_49 : decode cX10_init 49 = .ok (.new 37, 3) := by decide +kernel
theorem dX10_init_52 : decode cX10_init 52 = .ok (.dup, 1) := by decide +kernel
theorem dX10_init_53 : decode cX10_init 53 = .ok (.invokespecial 39, 3) := by decide +kernel
theorem dX10_init_56 : decode cX10_init 56 = .ok (.putfield 40, 3) := by decide +kernel
theorem dX10_init_59 : decode cX10_init 59 = .ok (.aload_n 0, 1) := by decide +kernel
theorem dX10_init_60 : decode cX10_init 60 = .ok (.new 44, 3) := by decide +kernel
theorem dX10_init_63 : decode cX10_init 63 = .ok (.dup, 1) := by decide +kernel
theorem dX10_init_64 : decode cX10_init 64 = .ok (.invokespecial 46, 3) := by decide +kernel
theorem dX10_init_67 : decode cX10_init 67 = .ok (.putfield 47, 3) := by decide +kernel
theorem dX10_init_70 : decode cX10_init 70 = .ok (.aload_n 0, 1) := by decide +kernel
theorem dX10_init_71 : decode cX10_init 71 = .ok (.new 51, 3) := by decide +kernel
theorem dX10_init_74 : decode cX10_init 74 = .ok (.dup, 1) := by decide +kernel
theorem dX10_init_75 : decode cX10_init 75 = .ok (.invokespecial 53, 3) := by decide +kernel
theorem dX10_init_78 : decode cX10_init 78 = .ok (.putfield 54, 3) := by decide +kernel
theorem dX10_init_81 : decode cX10_init 81 = .ok (.aload_n 0, 1) := by decide +kernel
theorem dX10_init_82 : decode cX10_init 82 = .ok (.iconst 1, 1) := by decide +kernel
theorem dX10_init_83 : decode cX10_init 83 = .ok (.putfield 58, 3) := by decide +kernel
theorem dX10_init_86 : decode cX10_init 86 = .ok (.return_, 1) := by decide +kernel
set_option maxRecDepth 100000 in
theorem ggX10_append_X5_hasRoom : GoodIn wsX10_append wsX5_hasRoom := goodIn_r _ [9, 10, 24, 25, 26, 27, 28, 29, 30] rfl (by decide +kernel)
set_option maxRecDepth 100000 in
theorem gX10_append_X5_hasRoom : GoodIn wsX10_append (wsV RX10 62 RX5 yX5_hasRoom wsX5_hasRoom) := goodIn_app (goodIn_of _ (by decide +kernel)) ggX10_append_X5_hasRoom
set_option maxRecDepth 100000 in
theorem ggX10_append_X5_takeBytes : GoodIn wsX10_append wsX5_takeBytes := goodIn_r _ [14, 10, 15, 24, 25, 26, 27, 28, 29, 30] rfl (by decide +kernel)
set_option maxRecDepth 100000 in
theorem gX10_append_X5_takeBytes : GoodIn wsX10_append (wsV RX10 73 RX5 yX5_takeBytes wsX5_takeBytes) := goodIn_app (goodIn_of _ (by decide +kernel)) ggX10_append_X5_takeBytes
theorem dX10_append_0 : decode cX10_append 0 = .ok (.aload_n 0, 1) := by decide +kernel
theorem dX10_append_1 : decode cX10_append 1 = .ok (.getfield 26, 3) := by decide +kernel
theorem dX10_append_4 : decode cX10_append 4 = .ok (.invokevirtual 62, 3) := by decide +kernel
theorem dX10_append_7 : decode cX10_append 7 = .ok (.ifCond .ne 13, 3) := by decide +kernel
theorem dX10_append_10 : decode cX10_append 10 = .ok (.new 66, 3) := by decide +kernel
theorem dX10_append_13 : decode cX10_append 13 = .ok (.dup, 1) := by decide +kernel
theorem dX10_append_14 : decode cX10_append 14 = .ok (.ldc 68, 2) := by decide +kernel
theorem dX10_append_16 : decode cX10_append 16 = .ok (.invokespecial 70, 3) := by decide +kernel
theorem dX10_append_19 : decode cX10_append 19 = .ok (.athrow, 1) := by decide +kernel
theorem dX10_append_20 : decode cX10_append 20 = .ok (.aload_n 0, 1) := by decide +kernel
theorem dX10_append_21 : decode cX10_append 21 = .ok (.getfield 26, 3) := by decide +kernel
theorem dX10_append_24 : decode cX10_append 24 = .ok (.iload_n 1, 1) := by decide +kernel
theorem dX10_append_25 : decode cX10_append 25 = .ok (.invokevirtual 73, 3) := by decide +kernel
theorem dX10_append_28 : decode cX10_append 28 = .ok (.aload_n 0, 1) := by decide +kernel
theorem dX10_append_29 : decode cX10_append 29 = .ok (.getfield 26, 3) := by decide +kernel
theorem dX10_append_32 : decode cX10_append 32 = .ok (.iload_n 2, 1) := by decide +kernel
theorem dX10_append_33 : decode cX10_append 33 = .ok (.invokevirtual 73, 3) := by decide +kernel
theorem dX10_append_36 : decode cX10_append 36 = .ok (.aload_n 0, 1) := by decide +kernel
theorem dX10_append_37 : decode cX10_append 37 = .ok (.getfield 26, 3) := by decide +kernel
theorem dX10_append_40 : decode cX10_append 40 = .ok (.iload_n 3, 1) := by decide +kernel
theorem dX10_append_41 : decode cX10_append 41 = .ok (.invokevirtual 73, 3) := by decide +kernel
theorem dX10_append_44 : decode cX10_append 44 = .ok (.aload_n 0, 1) := by decide +kernel
theorem dX10_append_45 : decode cX10_append 45 = .ok (.getfield 26, 3) := by decide +kernel
theorem dX10_append_48 : decode cX10_append 48 = .ok (.iload 4, 2) := by decide +kernel
theorem dX10_append_50 : decode cX10_append 50 = .ok (.invokevirtual 73, 3) := by decide +kernel
theorem dX10_append_53 : decode cX10_append 53 = .ok (.aload_n 0, 1) := by decide +kernel
theorem dX10_append_54 : decode cX10_append 54 = .ok (.getfield 26, 3) := by decide +kernel
theorem dX10_append_57 : decode cX10_append 57 = .ok (.iload 5, 2) := by decide +kernel
theorem dX10_append_59 : decode cX10_append 59 = .ok (.invokevirtual 73, 3) := by decide +kernel
theorem dX10_append_62 : decode cX10_append 62 = .ok (.aload_n 0, 1) := by decide +kernel
theorem dX10_append_63 : decode cX10_append 63 = .ok (.getfield 26, 3) := by decide +kernel
theorem dX10_append_66 : decode cX10_append 66 = .ok (.getfield 77, 3) := by decide +kernel
theorem dX10_append_69 : decode cX10_append 69 = .ok (.ireturn, 1) := by decide +kernel
set_option maxRecDepth 100000 in
theorem ggX10_load_X5_readShow : GoodIn wsX10_load wsX5_readShow := goodIn_r _ [14, 15, 16, 17, 18, 19, 20, 21, 22, 23, 24, 25, 26, 27, 28, 29, 30, 31, 32, 33, 34, 35, 36, 37, 38, 39, 40, 41, 42, 43, 44, 45, 46, 47, 48, 49, 13, 50, 51, 52, 53, 54, 55, 56, 57, 58, 59, 60, 61, 62, 63, 64, 65, 66, 67, 68, 69, 70, 71, 72, 73, 74, 75, 76, 77, 78, 79, 80, 81, 82, 83, 84, 85, 86, 87, 88, 89, 90, 91, 92, 93, 94, 95, 96, 97, 98, 99, 100, 101, 102, 103, 104, 105, 106, 107, 108, 109, 110, 111, 112, 113, 114, 115, 116, 117, 118, 119, 120, 121, 122, 123, 124, 125, 126, 127, 128, 129, 130, 131, 132, 133, 134, 135, 136, 137, 138, 139, 190, 191, 192, 193, 194, 195, 196, 197, 198, 199, 200, 209, 210, 211, 212, 213, 214, 215, 216, 217, 218, 201, 202, 203, 204, 205, 206, 207, 208] rfl (by decide +kernel)
set_option maxRecDepth 100000 in
theorem gX10_load_X5_readShow : GoodIn wsX10_load (wsV RX10 86 RX5 yX5_readShow wsX5_readShow) := goodIn_app (goodIn_of _ (by decide +kernel)) ggX10_load_X5_readShow
set_option maxRecDepth 100000 in
theorem ggX10_load_X10_beginChange : GoodIn wsX10_load wsX10_beginChange := goodIn_r _ [144, 145, 6, 146, 147, 148, 149, 150, 151, 152, 153, 154, 155, 156, 157, 28, 158, 30, 31, 33, 35, 36, 37, 38, 39, 159, 160, 161, 43, 162, 45, 46, 90, 163, 91, 92, 93, 111, 102, 164, 165, 166, 121, 167, 123, 124, 168, 125, 126, 169, 170, 171, 172, 173, 174, 175, 176, 177, 178, 179, 180, 182, 183, 184, 185, 186, 187, 188, 189, 219, 220, 221, 197, 198, 199, 200, 201, 202, 203, 204, 205, 206, 207, 208, 209, 210, 211, 212, 213, 214, 215, 216, 217, 218] rfl (by decide +kernel)
set_option maxRecDepth 100000 in
theorem gX10_load_X10_beginChange : GoodIn wsX10_load (wsV RX10 92 RX10 yX10_beginChange wsX10_beginChange) := goodIn_app (goodIn_of _ (by decide +kernel)) ggX10_load_X10_beginChange
set_option maxRecDepth 100000 in
theorem ggX10_load_X6_copyFrom : GoodIn wsX10_load wsX6_copyFrom := goodIn_r _ [158, 30, 31, 33, 35, 36, 37, 38, 39, 159, 160, 161, 43, 162, 45, 46, 90, 163, 91, 92, 93, 111, 102, 164, 165, 166, 121, 167, 123, 124, 168, 125, 126, 169, 170, 171, 172, 173, 174, 175, 176, 177, 178, 179, 180, 197, 198, 199, 200, 201, 202, 203, 204, 205, 206, 207, 208, 209, 210, 211, 212, 213, 214, 215, 216, 217, 218] rfl (by decide +kernel)
set_option maxRecDepth 100000 in
theorem gX10_load_X6_copyFrom : GoodIn wsX10_load (wsV RX10 98 RX6 yX6_copyFrom wsX6_copyFrom) := goodIn_app (goodIn_of _ (by decide +kernel)) ggX10_load_X6_copyFrom
theorem dX10_load_0 : decode cX10_load 0 = .ok (.iload_n 1, 1) := by decide +kernel
theorem dX10_load_1 : decode cX10_load 1 = .ok (.ifCond .lt 14, 3) := by decide +kernel
theorem dX10_load_4 : decode cX10_load 4 = .ok (.iload_n 1, 1) := by decide +kernel
theorem dX10_load_5 : decode cX10_load 5 = .ok (.aload_n 0, 1) := by decide +kernel
theorem dX10_load_6 : decode cX10_load 6 = .ok (.getfield 26, 3) := by decide +kernel
theorem dX10_load_9 : decode cX10_load 9 = .ok (.getfield 77, 3) := by decide +kernel
theorem dX10_load_12 : decode cX10_load 12 = .ok (.if_icmp .le 13, 3) := by decide +kernel
theorem dX10_load_15 : decode cX10_load 15 = .ok (.new 81, 3) := by decide +kernel
theorem dX10_load_18 : decode cX10_load 18 = .ok (.dup, 1) := by decide +kernel
theorem dX10_load_19 : decode cX10_load 19 = .ok (.ldc 83, 2) := by decide +kernel
theorem dX10_load_21 : decode cX10_load 21 = .ok (.invokespecial 85, 3) := by decide +kernel
theorem dX10_load_24 : decode cX10_load 24 = .ok (.athrow, 1) := by decide +kernel
theorem dX10_load_25 : decode cX10_load 25 = .ok (.aload_n 0, 1) := by decide +kernel
theorem dX10_load_26 : decode cX10_load 26 = .ok (.getfield 26, 3) := by decide +kernel
theorem dX10_load_29 : decode cX10_load 29 = .ok (.iload_n 1, 1) := by decide +kernel
theorem dX10_load_30 : decode cX10_load 30 = .ok (.invokevirtual 86, 3) := by decide +kernel
theorem dX10_load_33 : decode cX10_load 33 = .ok (.aload_n 0, 1) := by decide +kernel
theorem dX10_load_34 : decode cX10_load 34 = .ok (.getfield 26, 3) := by decide +kernel
theorem dX10_load_37 : decode cX10_load 37 = .ok (.getfield 89, 3) := by decide +kernel
theorem dX10_load_40 : decode cX10_load 40 = .ok (.ifCond .eq 11, 3) := by decide +kernel
theorem dX10_load_43 : decode cX10_load 43 = .ok (.aload_n 0, 1) := by decide +kernel
theorem dX10_load_44 : decode cX10_load 44 = .ok (.getfield 26, 3) := by decide +kernel
theorem dX10_load_47 : decode cX10_load 47 = .ok (.getfield 89, 3) := by decide +kernel
theorem dX10_load_50 : decode cX10_load 50 = .ok (.ireturn, 1) := by decide +kernel
theorem dX10_load_51 : decode cX10_load 51 = .ok (.aload_n 0, 1) := by decide +kernel
theorem dX10_load_52 : decode cX10_load 52 = .ok (.invokevirtual 92, 3) := by decide +kernel
theorem dX10_load_55 : decode cX10_load 55 = .ok (.aload_n 0, 1) := by decide +kernel
theorem dX10_load_56 : decode cX10_load 56 = .ok (.getfield 12, 3) := by decide +kernel
theorem dX10_load_59 : decode cX10_load 59 = .ok (.aload_n 0, 1) := by decide +kernel
theorem dX10_load_60 : decode cX10_load 60 = .ok (.getfield 26, 3) := by decide +kernel
theorem dX10_load_63 : decode cX10_load 63 = .ok (.getfield 95, 3) := by decide +kernel
theorem dX10_load_66 : decode cX10_load 66 = .ok (.invokevirtual 98, 3) := by decide +kernel
theorem dX10_load_69 : decode cX10_load 69 = .ok (.aload_n 0, 1) := by decide +kernel
theorem dX10_load_70 : decode cX10_load 70 = .ok (.getfield 12, 3) := by decide +kernel
theorem dX10_load_73 : decode cX10_load 73 = .ok (.getfield 102, 3) := by decide +kernel
theorem dX10_load_76 : decode cX10_load 76 = .ok (.getfield 106, 3) := by decide +kernel
theorem dX10_load_79 : decode cX10_load 79 = .ok (.ireturn, 1) := by decide +kernel
theorem dX10_errorPosition_0 : decode cX10_errorPosition 0 = .ok (.aload_n 0, 1) := by decide +kernel
theorem dX10_errorPosition_1 : decode cX10_errorPosition 1 = .ok (.getfield 26, 3) := by decide +kernel
theorem dX10_errorPosition_4 : decode cX10_errorPosition 4 = .ok (.getfield 111, 3) := by decide +kernel
theorem dX10_errorPosition_7 : decode cX10_errorPosition 7 = .ok (.ireturn, 1) := by decide +kernel
set_option maxRecDepth 100000 in
theorem ggX10_count_X9_startOf : GoodIn wsX10_count wsX9_startOf := goodIn_r _ [14, 15, 16, 17, 13, 18, 19, 20, 56, 57, 58, 59, 60, 61, 62, 63] rfl (by decide +kernel)
set_option maxRecDepth 100000 in
theorem gX10_count_X9_startOf : GoodIn wsX10_count (wsV RX10 126 RX9 yX9_startOf wsX9_startOf) := goodIn_app (goodIn_of _ (by decide +kernel)) ggX10_count_X9_startOf
set_option maxRecDepth 100000 in
theorem ggX10_count_X9_allWords : GoodIn wsX10_count wsX9_allWords := goodIn_r _ [24, 25, 26, 27, 28, 13, 29, 30, 20, 56, 57, 58, 59, 60, 61, 62, 63] rfl (by decide +kernel)
set_option maxRecDepth 100000 in
theorem gX10_count_X9_allWords : GoodIn wsX10_count (wsV RX10 130 RX9 yX9_allWords wsX9_allWords) := goodIn_app (goodIn_of _ (by decide +kernel)) ggX10_count_X9_allWords
set_option maxRecDepth 100000 in
theorem ggX10_count_X9_longPauses : GoodIn wsX10_count wsX9_longPauses := goodIn_r _ [34, 35, 36, 37, 13, 38, 25, 39, 40, 41, 42, 43, 20, 56, 57, 58, 59, 60, 61, 62, 63] rfl (by decide +kernel)
set_option maxRecDepth 100000 in
theorem gX10_count_X9_longPauses : GoodIn wsX10_count (wsV RX10 138 RX9 yX9_longPauses wsX9_longPauses) := goodIn_app (goodIn_of _ (by decide +kernel)) ggX10_count_X9_longPauses
theorem dX10_count_0 : decode cX10_count 0 = .ok (.aload_n 0, 1) := by decide +kernel
theorem dX10_count_1 : decode cX10_count 1 = .ok (.getfield 12, 3) := by decide +kernel
theorem dX10_count_4 : decode cX10_count 4 = .ok (.getfield 102, 3) := by decide +kernel
theorem dX10_count_7 : decode cX10_count 7 = .ok (.astore_n 2, 1) := by decide +kernel
theorem dX10_count_8 : decode cX10_count 8 = .ok (.iload_n 1, 1) := by decide +kernel
theorem dX10_count_9 : decode cX10_count 9 = .ok (.tableswitch 88 0 5 #[39, 44, 49, 60, 69, 74], 39) := by decide +kernel
theorem dX10_count_48 : decode cX10_count 48 = .ok (.aload_n 2, 1) := by decide +kernel
theorem dX10_count_49 : decode cX10_count 49 = .ok (.getfield 106, 3) := by decide +kernel
theorem dX10_count_52 : decode cX10_count 52 = .ok (.ireturn, 1) := by decide +kernel
theorem dX10_count_53 : decode cX10_count 53 = .ok (.aload_n 2, 1) := by decide +kernel
theorem dX10_count_54 : decode cX10_count 54 = .ok (.getfield 114, 3) := by decide +kernel
theorem dX10_count_57 : decode cX10_count 57 = .ok (.ireturn, 1) := by decide +kernel
theorem dX10_count_58 : decode cX10_count 58 = .ok (.aload_n 0, 1) := by decide +kernel
theorem dX10_count_59 : decode cX10_count 59 = .ok (.getfield 12, 3) := by decide +kernel
theorem dX10_count_62 : decode cX10_count 62 = .ok (.getfield 117, 3) := by decide +kernel
theorem dX10_count_65 : decode cX10_count 65 = .ok (.getfield 121, 3) := by decide +kernel
theorem dX10_count_68 : decode cX10_count 68 = .ok (.ireturn, 1) := by decide +kernel
theorem dX10_count_69 : decode cX10_count 69 = .ok (.aload_n 2, 1) := by decide +kernel
theorem dX10_count_70 : decode cX10_count 70 = .ok (.aload_n 2, 1) := by decide +kernel
theorem dX10_count_71 : decode cX10_count 71 = .ok (.getfield 106, 3) := by decide +kernel
theorem dX10_count_74 : decode cX10_count 74 = .ok (.invokevirtual 126, 3) := by decide +kernel
theorem dX10_count_77 : decode cX10_count 77 = .ok (.ireturn, 1) := by decide +kernel
theorem dX10_count_78 : decode cX10_count 78 = .ok (.aload_n 2, 1) := by decide +kernel
theorem dX10_count_79 : decode cX10_count 79 = .ok (.invokevirtual 130, 3) := by decide +kernel
theorem dX10_count_82 : decode cX10_count 82 = .ok (.ireturn, 1) := by decide +kernel
theorem dX10_count_83 : decode cX10_count 83 = .ok (.aload_n 2, 1) := by decide +kernel
theorem dX10_count_84 : decode cX10_count 84 = .ok (.aload_n 0, 1) := by decide +kernel
theorem dX10_count_85 : decode cX10_count 85 = .ok (.getfield 12, 3) := by decide +kernel
theorem dX10_count_88 : decode cX10_count 88 = .ok (.getfield 134, 3) := by decide +kernel
theorem dX10_count_91 : decode cX10_count 91 = .ok (.iconst 4, 1) := by decide +kernel
theorem dX10_count_92 : decode cX10_count 92 = .ok (.iaload, 1) := by decide +kernel
theorem dX10_count_93 : decode cX10_count 93 = .ok (.invokevirtual 138, 3) := by decide +kernel
theorem dX10_count_96 : decode cX10_count 96 = .ok (.ireturn, 1) := by decide +kernel
theorem dX10_count_97 : decode cX10_count 97 = .ok (.new 81, 3) := by decide +kernel
theorem dX10_count_100 : decode cX10_count 100 = .ok (.dup, 1) := by decide +kernel
theorem dX10_count_101 : decode cX10_count 101 = .ok (.ldc 141, 2) := by decide +kernel
theorem dX10_count_103 : decode cX10_count 103 = .ok (.invokespecial 85, 3) := by decide +kernel
theorem dX10_count_106 : decode cX10_count 106 = .ok (.athrow, 1) := by decide +kernel
set_option maxRecDepth 100000 in
theorem ggX10_setting_X10_requireSetting : GoodIn wsX10_setting wsX10_requireSetting := goodIn_ca (goodIn_r _ [7, 8, 9] rfl (by decide +kernel)) (goodIn_sub (fun _ h => List.mem_cons_of_mem _ (List.mem_append_right _ h)) (by decide +kernel))
set_option maxRecDepth 100000 in
theorem gX10_setting_X10_requireSetting : GoodIn wsX10_setting (wsV RX10 143 RX10 yX10_requireSetting wsX10_requireSetting) := goodIn_app (goodIn_of _ (by decide +kernel)) ggX10_setting_X10_requireSetting
theorem dX10_setting_0 : decode cX10_setting 0 = .ok (.aload_n 0, 1) := by decide +kernel
theorem dX10_setting_1 : decode cX10_setting 1 = .ok (.iload_n 1, 1) := by decide +kernel
theorem dX10_setting_2 : decode cX10_setting 2 = .ok (.invokevirtual 143, 3) := by decide +kernel
theorem dX10_setting_5 : decode cX10_setting 5 = .ok (.aload_n 0, 1) := by decide +kernel
theorem dX10_setting_6 : decode cX10_setting 6 = .ok (.getfield 12, 3) := by decide +kernel
theorem dX10_setting_9 : decode cX10_setting 9 = .ok (.getfield 134, 3) := by decide +kernel
theorem dX10_setting_12 : decode cX10_setting 12 = .ok (.iload_n 1, 1) := by decide +kernel
theorem dX10_setting_13 : decode cX10_setting 13 = .ok (.iaload, 1) := by decide +kernel
theorem dX10_setting_14 : decode cX10_setting 14 = .ok (.ireturn, 1) := by decide +kernel
set_option maxRecDepth 100000 in
theorem ggX10_set_X10_requireSetting : GoodIn wsX10_set wsX10_requireSetting := goodIn_ca (goodIn_r _ [9, 10, 11] rfl (by decide +kernel)) (goodIn_sub (fun _ h => List.mem_cons_of_mem _ (List.mem_append_left _ (List.mem_append_right _ h))) (by decide +kernel))
set_option maxRecDepth 100000 in
theorem gX10_set_X10_requireSetting : GoodIn wsX10_set (wsV RX10 143 RX10 yX10_requireSetting wsX10_requireSetting) := goodIn_app (goodIn_of _ (by decide +kernel)) ggX10_set_X10_requireSetting
set_option maxRecDepth 100000 in
theorem ggX10_set_X10_requireRange : GoodIn wsX10_set wsX10_requireRange := goodIn_ca (goodIn_r _ [15, 16, 17] rfl (by decide +kernel)) (goodIn_sub (fun _ h => List.mem_cons_of_mem _ (List.mem_append_right _ h)) (by decide +kernel))
set_option maxRecDepth 100000 in
theorem gX10_set_X10_requireRange : GoodIn wsX10_set (wsV RX10 152 RX10 yX10_requireRange wsX10_requireRange) := goodIn_app (goodIn_of _ (by decide +kernel)) ggX10_set_X10_requireRange
set_option maxRecDepth 100000 in
theorem ggX10_set_X10_beginChange : GoodIn wsX10_set wsX10_beginChange := goodIn_r _ [21, 22, 3, 23, 24, 25, 26, 27, 28, 29, 30, 31, 32, 33, 34, 35, 36, 37, 38, 39, 40, 41, 42, 43, 44, 45, 46, 47, 48, 49, 50, 51, 52, 53, 54, 55, 56, 57, 58, 59, 60, 61, 62, 63, 64, 65, 66, 67, 68, 69, 70, 71, 72, 73, 74, 75, 76, 77, 78, 79, 80, 81, 82, 83, 84, 85, 86, 87, 88, 93, 94, 95, 89, 90, 91, 92, 96, 97, 98, 99, 100, 101, 102, 103, 104, 105, 106, 107, 108, 109, 110, 111, 112, 113] rfl (by decide +kernel)
set_option maxRecDepth 100000 in
theorem gX10_set_X10_beginChange : GoodIn wsX10_set (wsV RX10 92 RX10 yX10_beginChange wsX10_beginChange) := goodIn_app (goodIn_of _ (by decide +kernel)) ggX10_set_X10_beginChange
theorem dX10_set_0 : decode cX10_set 0 = .ok (.aload_n 0, 1) := by decide +kernel
theorem dX10_set_1 : decode cX10_set 1 = .ok (.iload_n 1, 1) := by decide +kernel
theorem dX10_set_2 : decode cX10_set 2 = .ok (.invokevirtual 143, 3) := by decide +kernel
theorem dX10_set_5 : decode cX10_set 5 = .ok (.aload_n 0, 1) := by decide +kernel
theorem dX10_set_6 : decode cX10_set 6 = .ok (.iload_n 2, 1) := by decide +kernel
theorem dX10_set_7 : decode cX10_set 7 = .ok (.getstatic 146, 3) := by decide +kernel
theorem dX10_set_10 : decode cX10_set 10 = .ok (.iload_n 1, 1) := by decide +kernel
theorem dX10_set_11 : decode cX10_set 11 = .ok (.iaload, 1) := by decide +kernel
theorem dX10_set_12 : decode cX10_set 12 = .ok (.getstatic 149, 3) := by decide +kernel
theorem dX10_set_15 : decode cX10_set 15 = .ok (.iload_n 1, 1) := by decide +kernel
theorem dX10_set_16 : decode cX10_set 16 = .ok (.iaload, 1) := by decide +kernel
theorem dX10_set_17 : decode cX10_set 17 = .ok (.invokevirtual 152, 3) := by decide +kernel
theorem dX10_set_20 : decode cX10_set 20 = .ok (.aload_n 0, 1) := by decide +kernel
theorem dX10_set_21 : decode cX10_set 21 = .ok (.getfield 12, 3) := by decide +kernel
theorem dX10_set_24 : decode cX10_set 24 = .ok (.getfield 134, 3) := by decide +kernel
theorem dX10_set_27 : decode cX10_set 27 = .ok (.iload_n 1, 1) := by decide +kernel
theorem dX10_set_28 : decode cX10_set 28 = .ok (.iaload, 1) := by decide +kernel
theorem dX10_set_29 : decode cX10_set 29 = .ok (.istore_n 3, 1) := by decide +kernel
theorem dX10_set_30 : decode cX10_set 30 = .ok (.aload_n 0, 1) := by decide +kernel
theorem dX10_set_31 : decode cX10_set 31 = .ok (.invokevirtual 92, 3) := by decide +kernel
theorem dX10_set_34 : decode cX10_set 34 = .ok (.aload_n 0, 1) := by decide +kernel
theorem dX10_set_35 : decode cX10_set 35 = .ok (.getfield 12, 3) := by decide +kernel
theorem dX10_set_38 : decode cX10_set 38 = .ok (.getfield 134, 3) := by decide +kernel
theorem dX10_set_41 : decode cX10_set 41 = .ok (.iload_n 1, 1) := by decide +kernel
theorem dX10_set_42 : decode cX10_set 42 = .ok (.iload_n 2, 1) := by decide +kernel
theorem dX10_set_43 : decode cX10_set 43 = .ok (.iastore, 1) := by decide +kernel
theorem dX10_set_44 : decode cX10_set 44 = .ok (.iload_n 3, 1) := by decide +kernel
theorem dX10_set_45 : decode cX10_set 45 = .ok (.ireturn, 1) := by decide +kernel
set_option maxRecDepth 100000 in
theorem ggX10_segment_X10_requireSegment : GoodIn wsX10_segment wsX10_requireSegment := goodIn_ca (goodIn_r _ [10, 11, 12, 3, 4, 13, 190, 191, 192, 193, 194, 195, 196, 197, 198, 199, 200, 201, 202, 203, 204, 205, 206, 207, 208, 209] rfl (by decide +kernel)) (goodIn_sub (fun _ h => List.mem_cons_of_mem _ (List.mem_append_right _ h)) (by decide +kernel))
set_option maxRecDepth 100000 in
theorem gX10_segment_X10_requireSegment : GoodIn wsX10_segment (wsV RX10 156 RX10 yX10_requireSegment wsX10_requireSegment) := goodIn_app (goodIn_of _ (by decide +kernel)) ggX10_segment_X10_requireSegment
set_option maxRecDepth 100000 in
theorem ggX10_segment_X9_durationOf : GoodIn wsX10_segment wsX9_durationOf := goodIn_r _ [18, 19, 20, 202, 203, 204, 205, 206, 207, 208, 209] rfl (by decide +kernel)
set_option maxRecDepth 100000 in
theorem gX10_segment_X9_durationOf : GoodIn wsX10_segment (wsV RX10 159 RX9 yX9_durationOf wsX9_durationOf) := goodIn_app (goodIn_of _ (by decide +kernel)) ggX10_segment_X9_durationOf
set_option maxRecDepth 100000 in
theorem ggX10_segment_X9_pauseOf : GoodIn wsX10_segment wsX9_pauseOf := goodIn_r _ [24, 25, 20, 202, 203, 204, 205, 206, 207, 208, 209] rfl (by decide +kernel)
set_option maxRecDepth 100000 in
theorem gX10_segment_X9_pauseOf : GoodIn wsX10_segment (wsV RX10 162 RX9 yX9_pauseOf wsX9_pauseOf) := goodIn_app (goodIn_of _ (by decide +kernel)) ggX10_segment_X9_pauseOf
set_option maxRecDepth 100000 in
theorem ggX10_segment_X9_sizeOf : GoodIn wsX10_segment wsX9_sizeOf := goodIn_r _ [29, 30, 20, 202, 203, 204, 205, 206, 207, 208, 209] rfl (by decide +kernel)
set_option maxRecDepth 100000 in
theorem gX10_segment_X9_sizeOf : GoodIn wsX10_segment (wsV RX10 165 RX9 yX9_sizeOf wsX9_sizeOf) := goodIn_app (goodIn_of _ (by decide +kernel)) ggX10_segment_X9_sizeOf
set_option maxRecDepth 100000 in
theorem ggX10_segment_X9_startOf : GoodIn wsX10_segment wsX9_startOf := goodIn_r _ [34, 35, 15, 16, 17, 18, 19, 20, 202, 203, 204, 205, 206, 207, 208, 209] rfl (by decide +kernel)
set_option maxRecDepth 100000 in
theorem gX10_segment_X9_startOf : GoodIn wsX10_segment (wsV RX10 126 RX9 yX9_startOf wsX9_startOf) := goodIn_app (goodIn_of _ (by decide +kernel)) ggX10_segment_X9_startOf
set_option maxRecDepth 100000 in
theorem ggX10_segment_X10_refresh : GoodIn wsX10_segment wsX10_refresh := goodIn_r _ [39, 40, 41, 3, 5, 42, 4, 43, 44, 45, 46, 47, 48, 49, 50, 51, 52, 53, 54, 55, 56, 57, 15, 16, 17, 18, 19, 20, 58, 59, 60, 61, 62, 63, 64, 65, 66, 67, 68, 69, 70, 71, 72, 73, 74, 75, 76, 77, 78, 79, 27, 28, 29, 30, 80, 81, 82, 83, 84, 85, 9, 86, 87, 88, 89, 90, 91, 92, 93, 94, 95, 96, 97, 98, 99, 100, 101, 102, 103, 104, 105, 106, 107, 108, 109, 110, 111, 112, 113, 114, 115, 116, 117, 118, 119, 120, 121, 122, 123, 124, 125, 126, 127, 128, 129, 130, 131, 132, 133, 134, 135, 136, 137, 138, 139, 140, 141, 142, 143, 144, 145, 146, 147, 148, 149, 150, 22, 23, 24, 25, 151, 152, 153, 154, 155, 156, 157, 158, 159, 160, 161, 162, 163, 164, 165, 166, 167, 168, 169, 170, 171, 172, 173, 174, 175, 176, 177, 178, 179, 180, 181, 182, 183, 190, 191, 192, 193, 194, 195, 196, 197, 198, 199, 200, 201, 202, 203, 204, 205, 206, 207, 208, 209, 210, 211, 212, 213, 214, 215, 216, 217, 218, 219, 220, 221, 222, 223, 224, 225, 226, 227, 228, 229, 230, 231, 232, 233, 234, 235, 236] rfl (by decide +kernel)
set_option maxRecDepth 100000 in
theorem gX10_segment_X10_refresh : GoodIn wsX10_segment (wsV RX10 168 RX10 yX10_refresh wsX10_refresh) := goodIn_app (goodIn_of _ (by decide +kernel)) ggX10_segment_X10_refresh
set_option maxRecDepth 100000 in
theorem ggX10_segment_X4_realTime : GoodIn wsX10_segment wsX4_realTime := goodIn_r _ [187, 120, 167, 124, 125, 168, 188, 189, 32, 33, 17, 34, 35, 15, 16, 18, 19, 20, 198, 199, 200, 201, 225, 226, 227, 228, 229, 230, 231, 232, 233, 234, 202, 203, 204, 205, 206, 207, 208, 209] rfl (by decide +kernel)
set_option maxRecDepth 100000 in
theorem gX10_segment_X4_realTime : GoodIn wsX10_segment (wsV RX10 171 RX4 yX4_realTime wsX4_realTime) := goodIn_app (goodIn_of _ (by decide +kernel)) ggX10_segment_X4_realTime
theorem dX10_segment_0 : decode cX10_segment 0 = .ok (.aload_n 0, 1) := by decide +kernel
theorem dX10_segment_1 : decode cX10_segment 1 = .ok (.iload_n 1, 1) := by decide +kernel
theorem dX10_segment_2 : decode cX10_segment 2 = .ok (.invokevirtual 156, 3) := by decide +kernel
theorem dX10_segment_5 : decode cX10_segment 5 = .ok (.iload_n 2, 1) := by decide +kernel
theorem dX10_segment_6 : decode cX10_segment 6 = .ok (.tableswitch 99 0 4 #[34, 46, 58, 70, 82], 34) := by decide +kernel
theorem dX10_segment_40 : decode cX10_segment 40 = .ok (.aload_n 0, 1) := by decide +kernel
theorem dX10_segment_41 : decode cX10_segment 41 = .ok (.getfield 12, 3) := by decide +kernel
theorem dX10_segment_44 : decode cX10_segment 44 = .ok (.getfield 102, 3) := by decide +kernel
theorem dX10_segment_47 : decode cX10_segment 47 = .ok (.iload_n 1, 1) := by decide +kernel
theorem dX10_segment_48 : decode cX10_segment 48 = .ok (.invokevirtual 159, 3) := by decide +kernel
theorem dX10_segment_51 : decode cX10_segment 51 = .ok (.ireturn, 1) := by decide +kernel
theorem dX10_segment_52 : decode cX10_segment 52 = .ok (.aload_n 0, 1) := by decide +kernel
theorem dX10_segment_53 : decode cX10_segment 53 = .ok (.getfield 12, 3) := by decide +kernel
theorem dX10_segment_56 : decode cX10_segment 56 = .ok (.getfield 102, 3) := by decide +kernel
theorem dX10_segment_59 : decode cX10_segment 59 = .ok (.iload_n 1, 1) := by decide +kernel
theorem dX10_segment_60 : decode cX10_segment 60 = .ok (.invokevirtual 162, 3) := by decide +kernel
theorem dX10_segment_63 : decode cX10_segment 63 = .ok (.ireturn, 1) := by decide +kernel
theorem dX10_segment_64 : decode cX10_segment 64 = .ok (.aload_n 0, 1) := by decide +kernel
theorem dX10_segment_65 : decode cX10_segment 65 = .ok (.getfield 12, 3) := by decide +kernel
theorem dX10_segment_68 : decode cX10_segment 68 = .ok (.getfield 102, 3) := by decide +kernel
theorem dX10_segment_71 : decode cX10_segment 71 = .ok (.iload_n 1, 1) := by decide +kernel
theorem dX10_segment_72 : decode cX10_segment 72 = .ok (.invokevirtual 165, 3) := by decide +kernel
theorem dX10_segment_75 : decode cX10_segment 75 = .ok (.ireturn, 1) := by decide +kernel
theorem dX10_segment_76 : decode cX10_segment 76 = .ok (.aload_n 0, 1) := by decide +kernel
theorem dX10_segment_77 : decode cX10_segment 77 = .ok (.getfield 12, 3) := by decide +kernel
theorem dX10_segment_80 : decode cX10_segment 80 = .ok (.getfield 102, 3) := by decide +kernel
theorem dX10_segment_83 : decode cX10_segment 83 = .ok (.iload_n 1, 1) := by decide +kernel
theorem dX10_segment_84 : decode cX10_segment 84 = .ok (.invokevirtual 126, 3) := by decide +kernel
theorem dX10_segment_87 : decode cX10_segment 87 = .ok (.ireturn, 1) := by decide +kernel
theorem dX10_segment_88 : decode cX10_segment 88 = .ok (.aload_n 0, 1) := by decide +kernel
theorem dX10_segment_89 : decode cX10_segment 89 = .ok (.invokevirtual 168, 3) := by decide +kernel
theorem dX10_segment_92 : decode cX10_segment 92 = .ok (.aload_n 0, 1) := by decide +kernel
theorem dX10_segment_93 : decode cX10_segment 93 = .ok (.getfield 40, 3) := by decide +kernel
theorem dX10_segment_96 : decode cX10_segment 96 = .ok (.aload_n 0, 1) := by decide +kernel
theorem dX10_segment_97 : decode cX10_segment 97 = .ok (.getfield 12, 3) := by decide +kernel
theorem dX10_segment_100 : decode cX10_segment 100 = .ok (.iload_n 1, 1) := by decide +kernel
theorem dX10_segment_101 : decode cX10_segment 101 = .ok (.invokevirtual 171, 3) := by decide +kernel
theorem dX10_segment_104 : decode cX10_segment 104 = .ok (.ireturn, 1) := by decide +kernel
theorem dX10_segment_105 : decode cX10_segment 105 = .ok (.new 81, 3) := by decide +kernel
theorem dX10_segment_108 : decode cX10_segment 108 = .ok (.dup, 1) := by decide +kernel
theorem dX10_segment_109 : decode cX10_segment 109 = .ok (.ldc 175, 2) := by decide +kernel
theorem dX10_segment_111 : decode cX10_segment 111 = .ok (.invokespecial 85, 3) := by decide +kernel
theorem dX10_segment_114 : decode cX10_segment 114 = .ok (.athrow, 1) := by decide +kernel
set_option maxRecDepth 100000 in
theorem ggX10_wordOf_X10_requireSegment : GoodIn wsX10_wordOf wsX10_requireSegment := goodIn_ca (goodIn_r _ [9, 1, 2, 3, 4, 10, 23, 24, 25, 26, 27, 28, 29, 30, 31, 32, 33, 34, 35, 36, 37, 38, 39, 40, 41, 42] rfl (by decide +kernel)) (goodIn_sub (fun _ h => List.mem_cons_of_mem _ (List.mem_append_right _ h)) (by decide +kernel))
set_option maxRecDepth 100000 in
theorem gX10_wordOf_X10_requireSegment : GoodIn wsX10_wordOf (wsV RX10 156 RX10 yX10_requireSegment wsX10_requireSegment) := goodIn_app (goodIn_of _ (by decide +kernel)) ggX10_wordOf_X10_requireSegment
set_option maxRecDepth 100000 in
theorem ggX10_wordOf_X9_sizeOf : GoodIn wsX10_wordOf wsX9_sizeOf := goodIn_r _ [15, 16, 17, 35, 36, 37, 38, 39, 40, 41, 42] rfl (by decide +kernel)
set_option maxRecDepth 100000 in
theorem gX10_wordOf_X9_sizeOf : GoodIn wsX10_wordOf (wsV RX10 165 RX9 yX9_sizeOf wsX9_sizeOf) := goodIn_app (goodIn_of _ (by decide +kernel)) ggX10_wordOf_X9_sizeOf
set_option maxRecDepth 100000 in
theorem ggX10_wordOf_X9_wordAt : GoodIn wsX10_wordOf wsX9_wordAt := goodIn_r _ [21, 22, 17, 35, 36, 37, 38, 39, 40, 41, 42] rfl (by decide +kernel)
set_option maxRecDepth 100000 in
theorem gX10_wordOf_X9_wordAt : GoodIn wsX10_wordOf (wsV RX10 182 RX9 yX9_wordAt wsX9_wordAt) := goodIn_app (goodIn_of _ (by decide +kernel)) ggX10_wordOf_X9_wordAt
theorem dX10_wordOf_0 : decode cX10_wordOf 0 = .ok (.aload_n 0, 1) := by decide +kernel
theorem dX10_wordOf_1 : decode cX10_wordOf 1 = .ok (.iload_n 1, 1) := by decide +kernel
theorem dX10_wordOf_2 : decode cX10_wordOf 2 = .ok (.invokevirtual 156, 3) := by decide +kernel
theorem dX10_wordOf_5 : decode cX10_wordOf 5 = .ok (.iload_n 2, 1) := by decide +kernel
theorem dX10_wordOf_6 : decode cX10_wordOf 6 = .ok (.ifCond .lt 18, 3) := by decide +kernel
theorem dX10_wordOf_9 : decode cX10_wordOf 9 = .ok (.iload_n 2, 1) := by decide +kernel
theorem dX10_wordOf_10 : decode cX10_wordOf 10 = .ok (.aload_n 0, 1) := by decide +kernel
theorem dX10_wordOf_11 : decode cX10_wordOf 11 = .ok (.getfield 12, 3) := by decide +kernel
theorem dX10_wordOf_14 : decode cX10_wordOf 14 = .ok (.getfield 102, 3) := by decide +kernel
theorem dX10_wordOf_17 : decode cX10_wordOf 17 = .ok (.iload_n 1, 1) := by decide +kernel
theorem dX10_wordOf_18 : decode cX10_wordOf 18 = .ok (.invokevirtual 165, 3) := by decide +kernel
theorem dX10_wordOf_21 : decode cX10_wordOf 21 = .ok (.if_icmp .lt 13, 3) := by decide +kernel
theorem dX10_wordOf_24 : decode cX10_wordOf 24 = .ok (.new 177, 3) := by decide +kernel
theorem dX10_wordOf_27 : decode cX10_wordOf 27 = .ok (.dup, 1) := by decide +kernel
theorem dX10_wordOf_28 : decode cX10_wordOf 28 = .ok (.ldc 179, 2) := by decide +kernel
theorem dX10_wordOf_30 : decode cX10_wordOf 30 = .ok (.invokespecial 181, 3) := by decide +kernel
theorem dX10_wordOf_33 : decode cX10_wordOf 33 = .ok (.athrow, 1) := by decide +kernel
theorem dX10_wordOf_34 : decode cX10_wordOf 34 = .ok (.aload_n 0, 1) := by decide +kernel
theorem dX10_wordOf_35 : decode cX10_wordOf 35 = .ok (.getfield 12, 3) := by decide +kernel
theorem dX10_wordOf_38 : decode cX10_wordOf 38 = .ok (.getfield 102, 3) := by decide +kernel
theorem dX10_wordOf_41 : decode cX10_wordOf 41 = .ok (.iload_n 1, 1) := by decide +kernel
theorem dX10_wordOf_42 : decode cX10_wordOf 42 = .ok (.iload_n 2, 1) := by decide +kernel
theorem dX10_wordOf_43 : decode cX10_wordOf 43 = .ok (.invokevirtual 182, 3) := by decide +kernel
theorem dX10_wordOf_46 : decode cX10_wordOf 46 = .ok (.ireturn, 1) := by decide +kernel
set_option maxRecDepth 100000 in
theorem ggX10_find_X9_numberOf : GoodIn wsX10_find wsX9_numberOf := goodIn_r _ [7, 8, 9, 22, 23, 24, 25, 26, 27, 28, 29] rfl (by decide +kernel)
set_option maxRecDepth 100000 in
theorem gX10_find_X9_numberOf : GoodIn wsX10_find (wsV RX10 186 RX9 yX9_numberOf wsX9_numberOf) := goodIn_app (goodIn_of _ (by decide +kernel)) ggX10_find_X9_numberOf
theorem dX10_find_0 : decode cX10_find 0 = .ok (.aload_n 0, 1) := by decide +kernel
theorem dX10_find_1 : decode cX10_find 1 = .ok (.getfield 12, 3) := by decide +kernel
theorem dX10_find_4 : decode cX10_find 4 = .ok (.getfield 102, 3) := by decide +kernel
theorem dX10_find_7 : decode cX10_find 7 = .ok (.lload_n 1, 1) := by decide +kernel
theorem dX10_find_8 : decode cX10_find 8 = .ok (.invokevirtual 186, 3) := by decide +kernel
theorem dX10_find_11 : decode cX10_find 11 = .ok (.ireturn, 1) := by decide +kernel
set_option maxRecDepth 100000 in
theorem ggX10_uses_X10_requireWord : GoodIn wsX10_uses wsX10_requireWord := goodIn_ca (goodIn_r _ [9, 10, 11, 3, 4, 12, 34, 35, 36, 37, 38, 39, 40, 41, 42, 43, 44, 45, 46, 47, 48, 49, 50, 51, 52, 53] rfl (by decide +kernel)) (goodIn_sub (fun _ h => List.mem_cons_of_mem _ (List.mem_append_right _ h)) (by decide +kernel))
set_option maxRecDepth 100000 in
theorem gX10_uses_X10_requireWord : GoodIn wsX10_uses (wsV RX10 190 RX10 yX10_requireWord wsX10_requireWord) := goodIn_app (goodIn_of _ (by decide +kernel)) ggX10_uses_X10_requireWord
set_option maxRecDepth 100000 in
theorem ggX10_uses_X10_requireSegment : GoodIn wsX10_uses wsX10_requireSegment := goodIn_ca (goodIn_r _ [16, 10, 11, 3, 4, 17, 34, 35, 36, 37, 38, 39, 40, 41, 42, 43, 44, 45, 46, 47, 48, 49, 50, 51, 52, 53] rfl (by decide +kernel)) (goodIn_sub (fun _ h => List.mem_cons_of_mem _ (List.mem_append_right _ h)) (by decide +kernel))
set_option maxRecDepth 100000 in
theorem gX10_uses_X10_requireSegment : GoodIn wsX10_uses (wsV RX10 156 RX10 yX10_requireSegment wsX10_requireSegment) := goodIn_app (goodIn_of _ (by decide +kernel)) ggX10_uses_X10_requireSegment
set_option maxRecDepth 100000 in
theorem ggX10_uses_X9_countIn : GoodIn wsX10_uses wsX9_countIn := goodIn_r _ [22, 23, 24, 25, 21, 26, 27, 28, 29, 30, 31, 32, 33, 46, 47, 48, 49, 50, 51, 52, 53] rfl (by decide +kernel)
set_option maxRecDepth 100000 in
theorem gX10_uses_X9_countIn : GoodIn wsX10_uses (wsV RX10 195 RX9 yX9_countIn wsX9_countIn) := goodIn_app (goodIn_of _ (by decide +kernel)) ggX10_uses_X9_countIn
theorem dX10_uses_0 : decode cX10_uses 0 = .ok (.aload_n 0, 1) := by decide +kernel
theorem dX10_uses_1 : decode cX10_uses 1 = .ok (.iload_n 1, 1) := by decide +kernel
theorem dX10_uses_2 : decode cX10_uses 2 = .ok (.invokevirtual 190, 3) := by decide +kernel
theorem dX10_uses_5 : decode cX10_uses 5 = .ok (.aload_n 0, 1) := by decide +kernel
theorem dX10_uses_6 : decode cX10_uses 6 = .ok (.iload_n 2, 1) := by decide +kernel
theorem dX10_uses_7 : decode cX10_uses 7 = .ok (.invokevirtual 156, 3) := by decide +kernel
theorem dX10_uses_10 : decode cX10_uses 10 = .ok (.aload_n 0, 1) := by decide +kernel
theorem dX10_uses_11 : decode cX10_uses 11 = .ok (.iload_n 3, 1) := by decide +kernel
theorem dX10_uses_12 : decode cX10_uses 12 = .ok (.invokevirtual 156, 3) := by decide +kernel
theorem dX10_uses_15 : decode cX10_uses 15 = .ok (.iload_n 3, 1) := by decide +kernel
theorem dX10_uses_16 : decode cX10_uses 16 = .ok (.iload_n 2, 1) := by decide +kernel
theorem dX10_uses_17 : decode cX10_uses 17 = .ok (.if_icmp .ge 13, 3) := by decide +kernel
theorem dX10_uses_20 : decode cX10_uses 20 = .ok (.new 81, 3) := by decide +kernel
theorem dX10_uses_23 : decode cX10_uses 23 = .ok (.dup, 1) := by decide +kernel
theorem dX10_uses_24 : decode cX10_uses 24 = .ok (.ldc 193, 2) := by decide +kernel
theorem dX10_uses_26 : decode cX10_uses 26 = .ok (.invokespecial 85, 3) := by decide +kernel
theorem dX10_uses_29 : decode cX10_uses 29 = .ok (.athrow, 1) := by decide +kernel
theorem dX10_uses_30 : decode cX10_uses 30 = .ok (.aload_n 0, 1) := by decide +kernel
theorem dX10_uses_31 : decode cX10_uses 31 = .ok (.getfield 12, 3) := by decide +kernel
theorem dX10_uses_34 : decode cX10_uses 34 = .ok (.getfield 102, 3) := by decide +kernel
theorem dX10_uses_37 : decode cX10_uses 37 = .ok (.iload_n 1, 1) := by decide +kernel
theorem dX10_uses_38 : decode cX10_uses 38 = .ok (.iload_n 2, 1) := by decide +kernel
theorem dX10_uses_39 : decode cX10_uses 39 = .ok (.iload_n 3, 1) := by decide +kernel
theorem dX10_uses_40 : decode cX10_uses 40 = .ok (.invokevirtual 195, 3) := by decide +kernel
theorem dX10_uses_43 : decode cX10_uses 43 = .ok (.ireturn, 1) := by decide +kernel
set_option maxRecDepth 100000 in
theorem ggX10_setDuration_X10_requireSegment : GoodIn wsX10_setDuration wsX10_requireSegment := goodIn_ca (goodIn_r _ [7, 8, 9, 1, 2, 10, 88, 89, 90, 91, 92, 93, 94, 95, 96, 97, 98, 99, 100, 101, 102, 103, 104, 105, 106, 107] rfl (by decide +kernel)) (goodIn_sub (fun _ h => List.mem_cons_of_mem _ (List.mem_append_left _ (List.mem_append_right _ h))) (by decide +kernel))
set_option maxRecDepth 100000 in
theorem gX10_setDuration_X10_requireSegment : GoodIn wsX10_setDuration (wsV RX10 156 RX10 yX10_requireSegment wsX10_requireSegment) := goodIn_app (goodIn_of _ (by decide +kernel)) ggX10_setDuration_X10_requireSegment
set_option maxRecDepth 100000 in
theorem ggX10_setDuration_X10_requireRange : GoodIn wsX10_setDuration wsX10_requireRange := goodIn_ca (goodIn_r _ [14, 15, 16] rfl (by decide +kernel)) (goodIn_sub (fun _ h => List.mem_cons_of_mem _ (List.mem_append_right _ h)) (by decide +kernel))
set_option maxRecDepth 100000 in
theorem gX10_setDuration_X10_requireRange : GoodIn wsX10_setDuration (wsV RX10 152 RX10 yX10_requireRange wsX10_requireRange) := goodIn_app (goodIn_of _ (by decide +kernel)) ggX10_setDuration_X10_requireRange
set_option maxRecDepth 100000 in
theorem ggX10_setDuration_X9_durationOf : GoodIn wsX10_setDuration wsX9_durationOf := goodIn_r _ [21, 22, 23, 100, 101, 102, 103, 104, 105, 106, 107] rfl (by decide +kernel)
set_option maxRecDepth 100000 in
theorem gX10_setDuration_X9_durationOf : GoodIn wsX10_setDuration (wsV RX10 159 RX9 yX9_durationOf wsX9_durationOf) := goodIn_app (goodIn_of _ (by decide +kernel)) ggX10_setDuration_X9_durationOf
set_option maxRecDepth 100000 in
theorem ggX10_setDuration_X10_beginChange : GoodIn wsX10_setDuration wsX10_beginChange := goodIn_r _ [27, 28, 1, 29, 30, 31, 32, 33, 34, 35, 36, 37, 38, 39, 40, 41, 42, 43, 44, 45, 46, 47, 48, 49, 50, 51, 52, 53, 20, 54, 55, 56, 23, 57, 22, 58, 59, 60, 61, 62, 63, 64, 65, 66, 67, 68, 69, 70, 71, 72, 73, 74, 75, 76, 77, 78, 79, 80, 81, 82, 83, 88, 89, 90, 91, 92, 93, 94, 95, 108, 109, 110, 96, 97, 98, 99, 100, 101, 102, 103, 104, 105, 106, 107, 111, 112, 113, 114, 115, 116, 117, 118, 119, 120] rfl (by decide +kernel)
set_option maxRecDepth 100000 in
theorem gX10_setDuration_X10_beginChange : GoodIn wsX10_setDuration (wsV RX10 92 RX10 yX10_beginChange wsX10_beginChange) := goodIn_app (goodIn_of _ (by decide +kernel)) ggX10_setDuration_X10_beginChange
set_option maxRecDepth 100000 in
theorem ggX10_setDuration_X9_changeDuration : GoodIn wsX10_setDuration wsX9_changeDuration := goodIn_r _ [87, 22, 23, 100, 101, 102, 103, 104, 105, 106, 107] rfl (by decide +kernel)
set_option maxRecDepth 100000 in
theorem gX10_setDuration_X9_changeDuration : GoodIn wsX10_setDuration (wsV RX10 199 RX9 yX9_changeDuration wsX9_changeDuration) := goodIn_app (goodIn_of _ (by decide +kernel)) ggX10_setDuration_X9_changeDuration
theorem dX10_setDuration_0 : decode cX10_setDuration 0 = .ok (.aload_n 0, 1) := by decide +kernel
theorem dX10_setDuration_1 : decode cX10_setDuration 1 = .ok (.iload_n 1, 1) := by decide +kernel
theorem dX10_setDuration_2 : decode cX10_setDuration 2 = .ok (.invokevirtual 156, 3) := by decide +kernel
theorem dX10_setDuration_5 : decode cX10_setDuration 5 = .ok (.aload_n 0, 1) := by decide +kernel
theorem dX10_setDuration_6 : decode cX10_setDuration 6 = .ok (.iload_n 2, 1) := by decide +kernel
theorem dX10_setDuration_7 : decode cX10_setDuration 7 = .ok (.iconst 1, 1) := by decide +kernel
theorem dX10_setDuration_8 : decode cX10_setDuration 8 = .ok (.sipush 999, 3) := by decide +kernel
theorem dX10_setDuration_11 : decode cX10_setDuration 11 = .ok (.invokevirtual 152, 3) := by decide +kernel
theorem dX10_setDuration_14 : decode cX10_setDuration 14 = .ok (.aload_n 0, 1) := by decide +kernel
theorem dX10_setDuration_15 : decode cX10_setDuration 15 = .ok (.getfield 12, 3) := by decide +kernel
theorem dX10_setDuration_18 : decode cX10_setDuration 18 = .ok (.getfield 102, 3) := by decide +kernel
theorem dX10_setDuration_21 : decode cX10_setDuration 21 = .ok (.iload_n 1, 1) := by decide +kernel
theorem dX10_setDuration_22 : decode cX10_setDuration 22 = .ok (.invokevirtual 159, 3) := by decide +kernel
theorem dX10_setDuration_25 : decode cX10_setDuration 25 = .ok (.istore_n 3, 1) := by decide +kernel
theorem dX10_setDuration_26 : decode cX10_setDuration 26 = .ok (.aload_n 0, 1) := by decide +kernel
theorem dX10_setDuration_27 : decode cX10_setDuration 27 = .ok (.invokevirtual 92, 3) := by decide +kernel
theorem dX10_setDuration_30 : decode cX10_setDuration 30 = .ok (.aload_n 0, 1) := by decide +kernel
theorem dX10_setDuration_31 : decode cX10_setDuration 31 = .ok (.getfield 12, 3) := by decide +kernel
theorem dX10_setDuration_34 : decode cX10_setDuration 34 = .ok (.getfield 102, 3) := by decide +kernel
theorem dX10_setDuration_37 : decode cX10_setDuration 37 = .ok (.iload_n 1, 1) := by decide +kernel
theorem dX10_setDuration_38 : decode cX10_setDuration 38 = .ok (.iload_n 2, 1) := by decide +kernel
theorem dX10_setDuration_39 : decode cX10_setDuration 39 = .ok (.invokevirtual 199, 3) := by decide +kernel
theorem dX10_setDuration_42 : decode cX10_setDuration 42 = .ok (.iload_n 3, 1) := by decide +kernel
theorem dX10_setDuration_43 : decode cX10_setDuration 43 = .ok (.ireturn, 1) := by decide +kernel
set_option maxRecDepth 100000 in
theorem ggX10_setPause_X10_requireSegment : GoodIn wsX10_setPause wsX10_requireSegment := goodIn_ca (goodIn_r _ [7, 8, 9, 1, 2, 10, 88, 89, 90, 91, 92, 93, 94, 95, 96, 97, 98, 99, 100, 101, 102, 103, 104, 105, 106, 107] rfl (by decide +kernel)) (goodIn_sub (fun _ h => List.mem_cons_of_mem _ (List.mem_append_left _ (List.mem_append_right _ h))) (by decide +kernel))
set_option maxRecDepth 100000 in
theorem gX10_setPause_X10_requireSegment : GoodIn wsX10_setPause (wsV RX10 156 RX10 yX10_requireSegment wsX10_requireSegment) := goodIn_app (goodIn_of _ (by decide +kernel)) ggX10_setPause_X10_requireSegment
set_option maxRecDepth 100000 in
theorem ggX10_setPause_X10_requireRange : GoodIn wsX10_setPause wsX10_requireRange := goodIn_ca (goodIn_r _ [14, 15, 16] rfl (by decide +kernel)) (goodIn_sub (fun _ h => List.mem_cons_of_mem _ (List.mem_append_right _ h)) (by decide +kernel))
set_option maxRecDepth 100000 in
theorem gX10_setPause_X10_requireRange : GoodIn wsX10_setPause (wsV RX10 152 RX10 yX10_requireRange wsX10_requireRange) := goodIn_app (goodIn_of _ (by decide +kernel)) ggX10_setPause_X10_requireRange
set_option maxRecDepth 100000 in
theorem ggX10_setPause_X9_pauseOf : GoodIn wsX10_setPause wsX9_pauseOf := goodIn_r _ [21, 22, 23, 100, 101, 102, 103, 104, 105, 106, 107] rfl (by decide +kernel)
set_option maxRecDepth 100000 in
theorem gX10_setPause_X9_pauseOf : GoodIn wsX10_setPause (wsV RX10 162 RX9 yX9_pauseOf wsX9_pauseOf) := goodIn_app (goodIn_of _ (by decide +kernel)) ggX10_setPause_X9_pauseOf
set_option maxRecDepth 100000 in
theorem ggX10_setPause_X10_beginChange : GoodIn wsX10_setPause wsX10_beginChange := goodIn_r _ [27, 28, 1, 29, 30, 31, 32, 33, 34, 35, 36, 37, 38, 39, 40, 41, 42, 43, 44, 45, 46, 47, 48, 49, 50, 51, 52, 53, 20, 54, 55, 56, 23, 57, 58, 22, 59, 60, 61, 62, 63, 64, 65, 66, 67, 68, 69, 70, 71, 72, 73, 74, 75, 76, 77, 78, 79, 80, 81, 82, 83, 88, 89, 90, 91, 92, 93, 94, 95, 108, 109, 110, 96, 97, 98, 99, 100, 101, 102, 103, 104, 105, 106, 107, 111, 112, 113, 114, 115, 116, 117, 118, 119, 120] rfl (by decide +kernel)
set_option maxRecDepth 100000 in
theorem gX10_setPause_X10_beginChange : GoodIn wsX10_setPause (wsV RX10 92 RX10 yX10_beginChange wsX10_beginChange) := goodIn_app (goodIn_of _ (by decide +kernel)) ggX10_setPause_X10_beginChange
set_option maxRecDepth 100000 in
theorem ggX10_setPause_X9_changePause : GoodIn wsX10_setPause wsX9_changePause := goodIn_r _ [87, 22, 23, 100, 101, 102, 103, 104, 105, 106, 107] rfl (by decide +kernel)
set_option maxRecDepth 100000 in
theorem gX10_setPause_X9_changePause : GoodIn wsX10_setPause (wsV RX10 203 RX9 yX9_changePause wsX9_changePause) := goodIn_app (goodIn_of _ (by decide +kernel)) ggX10_setPause_X9_changePause
theorem dX10_setPause_0 : decode cX10_setPause 0 = .ok (.aload_n 0, 1) := by decide +kernel
theorem dX10_setPause_1 : decode cX10_setPause 1 = .ok (.iload_n 1, 1) := by decide +kernel
theorem dX10_setPause_2 : decode cX10_setPause 2 = .ok (.invokevirtual 156, 3) := by decide +kernel
theorem dX10_setPause_5 : decode cX10_setPause 5 = .ok (.aload_n 0, 1) := by decide +kernel
theorem dX10_setPause_6 : decode cX10_setPause 6 = .ok (.iload_n 2, 1) := by decide +kernel
theorem dX10_setPause_7 : decode cX10_setPause 7 = .ok (.iconst 0, 1) := by decide +kernel
theorem dX10_setPause_8 : decode cX10_setPause 8 = .ok (.bipush 99, 2) := by decide +kernel
theorem dX10_setPause_10 : decode cX10_setPause 10 = .ok (.invokevirtual 152, 3) := by decide +kernel
theorem dX10_setPause_13 : decode cX10_setPause 13 = .ok (.aload_n 0, 1) := by decide +kernel
theorem dX10_setPause_14 : decode cX10_setPause 14 = .ok (.getfield 12, 3) := by decide +kernel
theorem dX10_setPause_17 : decode cX10_setPause 17 = .ok (.getfield 102, 3) := by decide +kernel
theorem dX10_setPause_20 : decode cX10_setPause 20 = .ok (.iload_n 1, 1) := by decide +kernel
theorem dX10_setPause_21 : decode cX10_setPause 21 = .ok (.invokevirtual 162, 3) := by decide +kernel
theorem dX10_setPause_24 : decode cX10_setPause 24 = .ok (.istore_n 3, 1) := by decide +kernel
theorem dX10_setPause_25 : decode cX10_setPause 25 = .ok (.aload_n 0, 1) := by decide +kernel
theorem dX10_setPause_26 : decode cX10_setPause 26 = .ok (.invokevirtual 92, 3) := by decide +kernel
theorem dX10_setPause_29 : decode cX10_setPause 29 = .ok (.aload_n 0, 1) := by decide +kernel
theorem dX10_setPause_30 : decode cX10_setPause 30 = .ok (.getfield 12, 3) := by decide +kernel
theorem dX10_setPause_33 : decode cX10_setPause 33 = .ok (.getfield 102, 3) := by decide +kernel
theorem dX10_setPause_36 : decode cX10_setPause 36 = .ok (.iload_n 1, 1) := by decide +kernel
theorem dX10_setPause_37 : decode cX10_setPause 37 = .ok (.iload_n 2, 1) := by decide +kernel
theorem dX10_setPause_38 : decode cX10_setPause 38 = .ok (.invokevirtual 203, 3) := by decide +kernel
theorem dX10_setPause_41 : decode cX10_setPause 41 = .ok (.iload_n 3, 1) := by decide +kernel
theorem dX10_setPause_42 : decode cX10_setPause 42 = .ok (.ireturn, 1) := by decide +kernel
set_option maxRecDepth 100000 in
theorem ggX10_addWord_X10_requireSegment : GoodIn wsX10_addWord wsX10_requireSegment := goodIn_ca (goodIn_r _ [9, 10, 11, 3, 4, 12, 89, 90, 91, 92, 93, 94, 95, 96, 97, 98, 99, 100, 101, 102, 103, 104, 105, 106, 107, 108] rfl (by decide +kernel)) (goodIn_sub (fun _ h => List.mem_cons_of_mem _ (List.mem_append_right _ h)) (by decide +kernel))
set_option maxRecDepth 100000 in
theorem gX10_addWord_X10_requireSegment : GoodIn wsX10_addWord (wsV RX10 156 RX10 yX10_requireSegment wsX10_requireSegment) := goodIn_app (goodIn_of _ (by decide +kernel)) ggX10_addWord_X10_requireSegment
set_option maxRecDepth 100000 in
theorem ggX10_addWord_X10_requireWord : GoodIn wsX10_addWord wsX10_requireWord := goodIn_ca (goodIn_r _ [16, 10, 11, 3, 4, 17, 89, 90, 91, 92, 93, 94, 95, 96, 97, 98, 99, 100, 101, 102, 103, 104, 105, 106, 107, 108] rfl (by decide +kernel)) (goodIn_sub (fun _ h => List.mem_cons_of_mem _ (List.mem_append_right _ h)) (by decide +kernel))
set_option maxRecDepth 100000 in
theorem gX10_addWord_X10_requireWord : GoodIn wsX10_addWord (wsV RX10 190 RX10 yX10_requireWord wsX10_requireWord) := goodIn_app (goodIn_of _ (by decide +kernel)) ggX10_addWord_X10_requireWord
set_option maxRecDepth 100000 in
theorem ggX10_addWord_X9_sizeOf : GoodIn wsX10_addWord wsX9_sizeOf := goodIn_r _ [22, 23, 24, 101, 102, 103, 104, 105, 106, 107, 108] rfl (by decide +kernel)
set_option maxRecDepth 100000 in
theorem gX10_addWord_X9_sizeOf : GoodIn wsX10_addWord (wsV RX10 165 RX9 yX9_sizeOf wsX9_sizeOf) := goodIn_app (goodIn_of _ (by decide +kernel)) ggX10_addWord_X9_sizeOf
set_option maxRecDepth 100000 in
theorem ggX10_addWord_X10_beginChange : GoodIn wsX10_addWord wsX10_beginChange := goodIn_r _ [28, 29, 3, 30, 31, 32, 33, 34, 35, 36, 37, 38, 39, 40, 41, 42, 43, 44, 45, 46, 47, 48, 49, 50, 51, 52, 53, 54, 21, 55, 56, 57, 24, 58, 59, 60, 23, 61, 62, 63, 64, 65, 66, 67, 68, 69, 70, 71, 72, 73, 74, 75, 76, 77, 78, 79, 80, 81, 82, 83, 84, 89, 90, 91, 92, 93, 94, 95, 96, 109, 110, 111, 97, 98, 99, 100, 101, 102, 103, 104, 105, 106, 107, 108, 112, 113, 114, 115, 116, 117, 118, 119, 120, 121] rfl (by decide +kernel)
set_option maxRecDepth 100000 in
theorem gX10_addWord_X10_beginChange : GoodIn wsX10_addWord (wsV RX10 92 RX10 yX10_beginChange wsX10_beginChange) := goodIn_app (goodIn_of _ (by decide +kernel)) ggX10_addWord_X10_beginChange
set_option maxRecDepth 100000 in
theorem ggX10_addWord_X9_putWord : GoodIn wsX10_addWord wsX9_putWord := goodIn_r _ [88, 24, 23, 61, 101, 102, 103, 104, 105, 106, 107, 108] rfl (by decide +kernel)
set_option maxRecDepth 100000 in
theorem gX10_addWord_X9_putWord : GoodIn wsX10_addWord (wsV RX10 208 RX9 yX9_putWord wsX9_putWord) := goodIn_app (goodIn_of _ (by decide +kernel)) ggX10_addWord_X9_putWord
theorem dX10_addWord_0 : decode cX10_addWord 0 = .ok (.aload_n 0, 1) := by decide +kernel
theorem dX10_addWord_1 : decode cX10_addWord 1 = .ok (.iload_n 1, 1) := by decide +kernel
theorem dX10_addWord_2 : decode cX10_addWord 2 = .ok (.invokevirtual 156, 3) := by decide +kernel
theorem dX10_addWord_5 : decode cX10_addWord 5 = .ok (.aload_n 0, 1) := by decide +kernel
theorem dX10_addWord_6 : decode cX10_addWord 6 = .ok (.iload_n 2, 1) := by decide +kernel
theorem dX10_addWord_7 : decode cX10_addWord 7 = .ok (.invokevirtual 190, 3) := by decide +kernel
theorem dX10_addWord_10 : decode cX10_addWord 10 = .ok (.aload_n 0, 1) := by decide +kernel
theorem dX10_addWord_11 : decode cX10_addWord 11 = .ok (.getfield 12, 3) := by decide +kernel
theorem dX10_addWord_14 : decode cX10_addWord 14 = .ok (.getfield 102, 3) := by decide +kernel
theorem dX10_addWord_17 : decode cX10_addWord 17 = .ok (.iload_n 1, 1) := by decide +kernel
theorem dX10_addWord_18 : decode cX10_addWord 18 = .ok (.invokevirtual 165, 3) := by decide +kernel
theorem dX10_addWord_21 : decode cX10_addWord 21 = .ok (.bipush 8, 2) := by decide +kernel
theorem dX10_addWord_23 : decode cX10_addWord 23 = .ok (.if_icmp .lt 13, 3) := by decide +kernel
theorem dX10_addWord_26 : decode cX10_addWord 26 = .ok (.new 66, 3) := by decide +kernel
theorem dX10_addWord_29 : decode cX10_addWord 29 = .ok (.dup, 1) := by decide +kernel
theorem dX10_addWord_30 : decode cX10_addWord 30 = .ok (.ldc 206, 2) := by decide +kernel
theorem dX10_addWord_32 : decode cX10_addWord 32 = .ok (.invokespecial 70, 3) := by decide +kernel
theorem dX10_addWord_35 : decode cX10_addWord 35 = .ok (.athrow, 1) := by decide +kernel
theorem dX10_addWord_36 : decode cX10_addWord 36 = .ok (.aload_n 0, 1) := by decide +kernel
theorem dX10_addWord_37 : decode cX10_addWord 37 = .ok (.invokevirtual 92, 3) := by decide +kernel
theorem dX10_addWord_40 : decode cX10_addWord 40 = .ok (.aload_n 0, 1) := by decide +kernel
theorem dX10_addWord_41 : decode cX10_addWord 41 = .ok (.getfield 12, 3) := by decide +kernel
theorem dX10_addWord_44 : decode cX10_addWord 44 = .ok (.getfield 102, 3) := by decide +kernel
theorem dX10_addWord_47 : decode cX10_addWord 47 = .ok (.iload_n 1, 1) := by decide +kernel
theorem dX10_addWord_48 : decode cX10_addWord 48 = .ok (.iload_n 2, 1) := by decide +kernel
theorem dX10_addWord_49 : decode cX10_addWord 49 = .ok (.invokevirtual 208, 3) := by decide +kernel
theorem dX10_addWord_52 : decode cX10_addWord 52 = .ok (.pop, 1) := by decide +kernel
theorem dX10_addWord_53 : decode cX10_addWord 53 = .ok (.aload_n 0, 1) := by decide +kernel
theorem dX10_addWord_54 : decode cX10_addWord 54 = .ok (.getfield 12, 3) := by decide +kernel
theorem dX10_addWord_57 : decode cX10_addWord 57 = .ok (.getfield 102, 3) := by decide +kernel
theorem dX10_addWord_60 : decode cX10_addWord 60 = .ok (.iload_n 1, 1) := by decide +kernel
theorem dX10_addWord_61 : decode cX10_addWord 61 = .ok (.invokevirtual 165, 3) := by decide +kernel
theorem dX10_addWord_64 : decode cX10_addWord 64 = .ok (.ireturn, 1) := by decide +kernel
set_option maxRecDepth 100000 in
theorem ggX10_removeSegment_X10_requireSegment : GoodIn wsX10_removeSegment wsX10_requireSegment := goodIn_ca (goodIn_r _ [8, 9, 10, 1, 2, 3, 78, 79, 80, 81, 82, 83, 84, 85, 86, 87, 88, 89, 90, 91, 92, 93, 94, 95, 96, 97] rfl (by decide +kernel)) (goodIn_sub (fun _ h => List.mem_cons_of_mem _ (List.mem_append_right _ h)) (by decide +kernel))
set_option maxRecDepth 100000 in
theorem gX10_removeSegment_X10_requireSegment : GoodIn wsX10_removeSegment (wsV RX10 156 RX10 yX10_requireSegment wsX10_requireSegment) := goodIn_app (goodIn_of _ (by decide +kernel)) ggX10_removeSegment_X10_requireSegment
set_option maxRecDepth 100000 in
theorem ggX10_removeSegment_X10_beginChange : GoodIn wsX10_removeSegment wsX10_beginChange := goodIn_r _ [14, 15, 1, 16, 17, 18, 19, 20, 21, 22, 23, 24, 25, 26, 27, 28, 29, 30, 31, 32, 33, 34, 35, 36, 37, 38, 39, 40, 41, 42, 43, 44, 45, 46, 47, 48, 49, 50, 51, 52, 53, 54, 55, 56, 57, 58, 59, 60, 61, 62, 63, 64, 65, 66, 67, 68, 69, 70, 71, 72, 73, 78, 79, 80, 81, 82, 83, 84, 85, 98, 99, 100, 86, 87, 88, 89, 90, 91, 92, 93, 94, 95, 96, 97, 101, 102, 103, 104, 105, 106, 107, 108, 109, 110] rfl (by decide +kernel)
set_option maxRecDepth 100000 in
theorem gX10_removeSegment_X10_beginChange : GoodIn wsX10_removeSegment (wsV RX10 92 RX10 yX10_beginChange wsX10_beginChange) := goodIn_app (goodIn_of _ (by decide +kernel)) ggX10_removeSegment_X10_beginChange
set_option maxRecDepth 100000 in
theorem ggX10_removeSegment_X9_dropSegment : GoodIn wsX10_removeSegment wsX9_dropSegment := goodIn_r _ [77, 43, 45, 90, 91, 92, 93, 94, 95, 96, 97] rfl (by decide +kernel)
set_option maxRecDepth 100000 in
theorem gX10_removeSegment_X9_dropSegment : GoodIn wsX10_removeSegment (wsV RX10 212 RX9 yX9_dropSegment wsX9_dropSegment) := goodIn_app (goodIn_of _ (by decide +kernel)) ggX10_removeSegment_X9_dropSegment
theorem dX10_removeSegment_0 : decode cX10_removeSegment 0 = .ok (.aload_n 0, 1) := by decide +kernel
theorem dX10_removeSegment_1 : decode cX10_removeSegment 1 = .ok (.iload_n 1, 1) := by decide +kernel
theorem dX10_removeSegment_2 : decode cX10_removeSegment 2 = .ok (.invokevirtual 156, 3) := by decide +kernel
theorem dX10_removeSegment_5 : decode cX10_removeSegment 5 = .ok (.aload_n 0, 1) := by decide +kernel
theorem dX10_removeSegment_6 : decode cX10_removeSegment 6 = .ok (.invokevirtual 92, 3) := by decide +kernel
theorem dX10_removeSegment_9 : decode cX10_removeSegment 9 = .ok (.aload_n 0, 1) := by decide +kernel
theorem dX10_removeSegment_10 : decode cX10_removeSegment 10 = .ok (.getfield 12, 3) := by decide +kernel
theorem dX10_removeSegment_13 : decode cX10_removeSegment 13 = .ok (.getfield 102, 3) := by decide +kernel
theorem dX10_removeSegment_16 : decode cX10_removeSegment 16 = .ok (.iload_n 1, 1) := by decide +kernel
theorem dX10_removeSegment_17 : decode cX10_removeSegment 17 = .ok (.invokevirtual 212, 3) := by decide +kernel
theorem dX10_removeSegment_20 : decode cX10_removeSegment 20 = .ok (.aload_n 0, 1) := by decide +kernel
theorem dX10_removeSegment_21 : decode cX10_removeSegment 21 = .ok (.getfield 12, 3) := by decide +kernel
theorem dX10_removeSegment_24 : decode cX10_removeSegment 24 = .ok (.getfield 102, 3) := by decide +kernel
theorem dX10_removeSegment_27 : decode cX10_removeSegment 27 = .ok (.getfield 106, 3) := by decide +kernel
theorem dX10_removeSegment_30 : decode cX10_removeSegment 30 = .ok (.ireturn, 1) := by decide +kernel
set_option maxRecDepth 100000 in
theorem ggX10_moveSegment_X10_requireSegment : GoodIn wsX10_moveSegment wsX10_requireSegment := goodIn_ca (goodIn_r _ [7, 8, 9, 1, 2, 10, 86, 87, 88, 89, 90, 91, 92, 93, 94, 95, 96, 97, 98, 99, 100, 101, 102, 103, 104, 105] rfl (by decide +kernel)) (goodIn_sub (fun _ h => List.mem_cons_of_mem _ (List.mem_append_right _ h)) (by decide +kernel))
set_option maxRecDepth 100000 in
theorem gX10_moveSegment_X10_requireSegment : GoodIn wsX10_moveSegment (wsV RX10 156 RX10 yX10_requireSegment wsX10_requireSegment) := goodIn_app (goodIn_of _ (by decide +kernel)) ggX10_moveSegment_X10_requireSegment
set_option maxRecDepth 100000 in
theorem ggX10_moveSegment_X10_beginChange : GoodIn wsX10_moveSegment wsX10_beginChange := goodIn_r _ [14, 15, 1, 16, 17, 18, 19, 20, 21, 22, 23, 24, 25, 26, 27, 28, 29, 30, 31, 32, 33, 34, 35, 36, 37, 38, 39, 40, 41, 42, 43, 44, 45, 46, 47, 48, 49, 50, 51, 52, 53, 54, 55, 56, 57, 58, 59, 60, 61, 62, 63, 64, 65, 66, 67, 68, 69, 70, 71, 72, 73, 86, 87, 88, 89, 90, 91, 92, 93, 106, 107, 108, 94, 95, 96, 97, 98, 99, 100, 101, 102, 103, 104, 105, 109, 110, 111, 112, 113, 114, 115, 116, 117, 118] rfl (by decide +kernel)
set_option maxRecDepth 100000 in
theorem gX10_moveSegment_X10_beginChange : GoodIn wsX10_moveSegment (wsV RX10 92 RX10 yX10_beginChange wsX10_beginChange) := goodIn_app (goodIn_of _ (by decide +kernel)) ggX10_moveSegment_X10_beginChange
set_option maxRecDepth 100000 in
theorem ggX10_moveSegment_X9_shiftSegment : GoodIn wsX10_moveSegment wsX9_shiftSegment := goodIn_r _ [77, 45, 98, 99, 100, 101, 102, 103, 104, 105] rfl (by decide +kernel)
set_option maxRecDepth 100000 in
theorem gX10_moveSegment_X9_shiftSegment : GoodIn wsX10_moveSegment (wsV RX10 215 RX9 yX9_shiftSegment wsX9_shiftSegment) := goodIn_app (goodIn_of _ (by decide +kernel)) ggX10_moveSegment_X9_shiftSegment
set_option maxRecDepth 100000 in
theorem ggX10_moveSegment_X9_startOf : GoodIn wsX10_moveSegment wsX9_startOf := goodIn_r _ [81, 82, 83, 84, 41, 85, 47, 45, 98, 99, 100, 101, 102, 103, 104, 105] rfl (by decide +kernel)
set_option maxRecDepth 100000 in
theorem gX10_moveSegment_X9_startOf : GoodIn wsX10_moveSegment (wsV RX10 126 RX9 yX9_startOf wsX9_startOf) := goodIn_app (goodIn_of _ (by decide +kernel)) ggX10_moveSegment_X9_startOf
theorem dX10_moveSegment_0 : decode cX10_moveSegment 0 = .ok (.aload_n 0, 1) := by decide +kernel
theorem dX10_moveSegment_1 : decode cX10_moveSegment 1 = .ok (.iload_n 1, 1) := by decide +kernel
theorem dX10_moveSegment_2 : decode cX10_moveSegment 2 = .ok (.invokevirtual 156, 3) := by decide +kernel
theorem dX10_moveSegment_5 : decode cX10_moveSegment 5 = .ok (.aload_n 0, 1) := by decide +kernel
theorem dX10_moveSegment_6 : decode cX10_moveSegment 6 = .ok (.iload_n 2, 1) := by decide +kernel
theorem dX10_moveSegment_7 : decode cX10_moveSegment 7 = .ok (.invokevirtual 156, 3) := by decide +kernel
theorem dX10_moveSegment_10 : decode cX10_moveSegment 10 = .ok (.aload_n 0, 1) := by decide +kernel
theorem dX10_moveSegment_11 : decode cX10_moveSegment 11 = .ok (.invokevirtual 92, 3) := by decide +kernel
theorem dX10_moveSegment_14 : decode cX10_moveSegment 14 = .ok (.aload_n 0, 1) := by decide +kernel
theorem dX10_moveSegment_15 : decode cX10_moveSegment 15 = .ok (.getfield 12, 3) := by decide +kernel
theorem dX10_moveSegment_18 : decode cX10_moveSegment 18 = .ok (.getfield 102, 3) := by decide +kernel
theorem dX10_moveSegment_21 : decode cX10_moveSegment 21 = .ok (.iload_n 1, 1) := by decide +kernel
theorem dX10_moveSegment_22 : decode cX10_moveSegment 22 = .ok (.iload_n 2, 1) := by decide +kernel
theorem dX10_moveSegment_23 : decode cX10_moveSegment 23 = .ok (.invokevirtual 215, 3) := by decide +kernel
theorem dX10_moveSegment_26 : decode cX10_moveSegment 26 = .ok (.aload_n 0, 1) := by decide +kernel
theorem dX10_moveSegment_27 : decode cX10_moveSegment 27 = .ok (.getfield 12, 3) := by decide +kernel
theorem dX10_moveSegment_30 : decode cX10_moveSegment 30 = .ok (.getfield 102, 3) := by decide +kernel
theorem dX10_moveSegment_33 : decode cX10_moveSegment 33 = .ok (.iload_n 2, 1) := by decide +kernel
theorem dX10_moveSegment_34 : decode cX10_moveSegment 34 = .ok (.invokevirtual 126, 3) := by decide +kernel
theorem dX10_moveSegment_37 : decode cX10_moveSegment 37 = .ok (.ireturn, 1) := by decide +kernel
set_option maxRecDepth 100000 in
theorem ggX10_segmentAt_X9_segmentSpokenAt : GoodIn wsX10_segmentAt wsX9_segmentSpokenAt := goodIn_r _ [7, 8, 9, 10, 11, 6, 12, 13, 14, 27, 28, 29, 30, 31, 32, 33, 34] rfl (by decide +kernel)
set_option maxRecDepth 100000 in
theorem gX10_segmentAt_X9_segmentSpokenAt : GoodIn wsX10_segmentAt (wsV RX10 218 RX9 yX9_segmentSpokenAt wsX9_segmentSpokenAt) := goodIn_app (goodIn_of _ (by decide +kernel)) ggX10_segmentAt_X9_segmentSpokenAt
theorem dX10_segmentAt_0 : decode cX10_segmentAt 0 = .ok (.aload_n 0, 1) := by decide +kernel
theorem dX10_segmentAt_1 : decode cX10_segmentAt 1 = .ok (.getfield 12, 3) := by decide +kernel
theorem dX10_segmentAt_4 : decode cX10_segmentAt 4 = .ok (.getfield 102, 3) := by decide +kernel
theorem dX10_segmentAt_7 : decode cX10_segmentAt 7 = .ok (.iload_n 1, 1) := by decide +kernel
theorem dX10_segmentAt_8 : decode cX10_segmentAt 8 = .ok (.invokevirtual 218, 3) := by decide +kernel
theorem dX10_segmentAt_11 : decode cX10_segmentAt 11 = .ok (.ireturn, 1) := by decide +kernel
set_option maxRecDepth 100000 in
theorem ggX10_change_X10_requireBoundary : GoodIn wsX10_change wsX10_requireBoundary := goodIn_ca (goodIn_r _ [7, 8, 9, 10, 11, 12, 13, 14, 15, 16, 17, 175, 176, 177, 178, 179, 180, 181, 182, 198, 199, 200, 201, 202, 203, 204, 205, 206, 207, 208, 209] rfl (by decide +kernel)) (goodIn_sub (fun _ h => List.mem_cons_of_mem _ (List.mem_append_right _ h)) (by decide +kernel))
set_option maxRecDepth 100000 in
theorem gX10_change_X10_requireBoundary : GoodIn wsX10_change (wsV RX10 221 RX10 yX10_requireBoundary wsX10_requireBoundary) := goodIn_app (goodIn_of _ (by decide +kernel)) ggX10_change_X10_requireBoundary
set_option maxRecDepth 100000 in
theorem ggX10_change_X10_refresh : GoodIn wsX10_change wsX10_refresh := goodIn_r _ [21, 22, 1, 10, 23, 24, 11, 25, 26, 27, 28, 29, 30, 31, 32, 33, 34, 35, 36, 37, 38, 39, 40, 41, 15, 42, 43, 44, 45, 46, 47, 48, 49, 50, 51, 52, 53, 54, 55, 56, 57, 58, 59, 60, 61, 62, 63, 64, 65, 66, 67, 68, 69, 70, 71, 72, 73, 74, 75, 76, 6, 77, 78, 79, 80, 81, 82, 83, 84, 85, 86, 87, 88, 89, 90, 91, 92, 93, 94, 95, 96, 97, 98, 99, 100, 101, 102, 103, 104, 105, 106, 107, 108, 109, 110, 111, 112, 113, 114, 115, 116, 117, 118, 13, 14, 16, 17, 119, 120, 121, 122, 123, 124, 125, 126, 127, 128, 129, 130, 131, 132, 133, 134, 135, 136, 137, 138, 139, 140, 141, 142, 143, 144, 145, 146, 147, 148, 149, 150, 151, 152, 153, 154, 155, 156, 157, 158, 159, 160, 161, 162, 163, 164, 165, 166, 167, 168, 169, 170, 171, 172, 173, 174, 175, 176, 177, 178, 179, 180, 181, 182, 198, 199, 200, 201, 202, 203, 204, 205, 206, 207, 208, 209, 183, 184, 185, 186, 187, 188, 189, 190, 191, 192, 193, 194, 195, 196, 197, 210, 211, 212, 213, 214, 215, 216, 217, 218, 219, 220, 221] rfl (by decide +kernel)
set_option maxRecDepth 100000 in
theorem gX10_change_X10_refresh : GoodIn wsX10_change (wsV RX10 168 RX10 yX10_refresh wsX10_refresh) := goodIn_app (goodIn_of _ (by decide +kernel)) ggX10_change_X10_refresh
theorem dX10_change_0 : decode cX10_change 0 = .ok (.aload_n 0, 1) := by decide +kernel
theorem dX10_change_1 : decode cX10_change 1 = .ok (.iload_n 1, 1) := by decide +kernel
theorem dX10_change_2 : decode cX10_change 2 = .ok (.invokevirtual 221, 3) := by decide +kernel
theorem dX10_change_5 : decode cX10_change 5 = .ok (.aload_n 0, 1) := by decide +kernel
theorem dX10_change_6 : decode cX10_change 6 = .ok (.invokevirtual 168, 3) := by decide +kernel
theorem dX10_change_9 : decode cX10_change 9 = .ok (.aload_n 0, 1) := by decide +kernel
theorem dX10_change_10 : decode cX10_change 10 = .ok (.getfield 33, 3) := by decide +kernel
theorem dX10_change_13 : decode cX10_change 13 = .ok (.getfield 224, 3) := by decide +kernel
theorem dX10_change_16 : decode cX10_change 16 = .ok (.iload_n 1, 1) := by decide +kernel
theorem dX10_change_17 : decode cX10_change 17 = .ok (.iaload, 1) := by decide +kernel
theorem dX10_change_18 : decode cX10_change 18 = .ok (.ireturn, 1) := by decide +kernel
set_option maxRecDepth 100000 in
theorem ggX10_chapters_X10_refresh : GoodIn wsX10_chapters wsX10_refresh := goodIn_r _ [7, 8, 1, 9, 10, 11, 12, 13, 14, 15, 16, 17, 18, 19, 20, 21, 22, 23, 24, 25, 26, 27, 28, 29, 30, 31, 32, 33, 34, 35, 36, 37, 38, 39, 40, 41, 42, 43, 44, 45, 46, 47, 48, 49, 50, 51, 52, 53, 54, 55, 56, 57, 58, 59, 60, 61, 62, 63, 64, 65, 6, 66, 67, 68, 69, 70, 71, 72, 73, 74, 75, 76, 77, 78, 79, 80, 81, 82, 83, 84, 85, 86, 87, 88, 89, 90, 91, 92, 93, 94, 95, 96, 97, 98, 99, 100, 101, 102, 103, 104, 105, 106, 107, 108, 109, 110, 111, 112, 113, 114, 115, 116, 117, 118, 119, 120, 121, 122, 123, 124, 125, 126, 127, 128, 129, 130, 131, 132, 133, 134, 135, 136, 137, 138, 139, 140, 141, 142, 143, 144, 145, 146, 147, 148, 149, 150, 151, 152, 153, 154, 155, 156, 157, 158, 159, 160, 161, 162, 163, 164, 165, 166, 167, 168, 169, 170, 171, 172, 173, 174, 175, 191, 192, 193, 194, 195, 196, 197, 198, 199, 200, 201, 202, 176, 177, 178, 179, 180, 181, 182, 183, 184, 185, 186, 187, 188, 189, 190, 203, 204, 205, 206, 207, 208, 209, 210, 211, 212, 213, 214] rfl (by decide +kernel)
set_option maxRecDepth 100000 in
theorem gX10_chapters_X10_refresh : GoodIn wsX10_chapters (wsV RX10 168 RX10 yX10_refresh wsX10_refresh) := goodIn_app (goodIn_of _ (by decide +kernel)) ggX10_chapters_X10_refresh
theorem dX10_chapters_0 : decode cX10_chapters 0 = .ok (.aload_n 0, 1) := by decide +kernel
theorem dX10_chapters_1 : decode cX10_chapters 1 = .ok (.invokevirtual 168, 3) := by decide +kernel
theorem dX10_chapters_4 : decode cX10_chapters 4 = .ok (.aload_n 0, 1) := by decide +kernel
theorem dX10_chapters_5 : decode cX10_chapters 5 = .ok (.getfield 33, 3) := by decide +kernel
theorem dX10_chapters_8 : decode cX10_chapters 8 = .ok (.getfield 227, 3) := by decide +kernel
theorem dX10_chapters_11 : decode cX10_chapters 11 = .ok (.ifCond .le 13, 3) := by decide +kernel
theorem dX10_chapters_14 : decode cX10_chapters 14 = .ok (.aload_n 0, 1) := by decide +kernel
theorem dX10_chapters_15 : decode cX10_chapters 15 = .ok (.getfield 33, 3) := by decide +kernel
theorem dX10_chapters_18 : decode cX10_chapters 18 = .ok (.getfield 227, 3) := by decide +kernel
theorem dX10_chapters_21 : decode cX10_chapters 21 = .ok (.goto 4, 3) := by decide +kernel
theorem dX10_chapters_24 : decode cX10_chapters 24 = .ok (.iconst (-1), 1) := by decide +kernel
theorem dX10_chapters_25 : decode cX10_chapters 25 = .ok (.ireturn, 1) := by decide +kernel
set_option maxRecDepth 100000 in
theorem ggX10_worth_X10_requireDivision : GoodIn wsX10_worth wsX10_requireDivision := goodIn_ca (goodIn_r _ [7, 8, 9, 1, 10, 11, 12, 13, 6, 14, 15, 16, 17, 18, 19, 20, 21, 22, 23, 24, 25, 26, 27, 28, 29, 30, 31, 32, 33, 34, 35, 36, 37, 38, 39, 40, 41, 42, 43, 44, 45, 46, 47, 48, 49, 50, 51, 52, 53, 54, 55, 56, 57, 58, 59, 60, 61, 62, 63, 64, 65, 66, 67, 68, 69, 70, 71, 72, 73, 74, 75, 76, 77, 78, 79, 80, 81, 82, 83, 84, 85, 86, 87, 88, 89, 90, 91, 92, 93, 94, 95, 96, 97, 98, 99, 100, 101, 102, 103, 104, 105, 106, 107, 108, 109, 110, 111, 112, 113, 114, 115, 116, 117, 118, 119, 120, 121, 122, 123, 124, 125, 126, 127, 128, 129, 130, 131, 132, 133, 134, 135, 136, 137, 138, 139, 140, 141, 142, 143, 144, 145, 146, 147, 148, 149, 150, 151, 152, 153, 154, 155, 156, 157, 158, 159, 160, 161, 162, 163, 164, 165, 166, 167, 168, 169, 170, 171, 172, 173, 174, 175, 176, 177, 178, 179, 180, 181, 182, 183, 184, 185, 186, 187, 188, 189, 190, 191, 192, 193, 194, 195, 196, 197, 198, 199, 200, 201, 202, 203, 204, 205, 206, 207, 208, 209, 210, 211, 212, 213, 214, 215, 216, 217, 218, 219, 220, 221] rfl (by decide +kernel)) (goodIn_sub (fun _ h => List.mem_cons_of_mem _ (List.mem_append_right _ h)) (by decide +kernel))
set_option maxRecDepth 100000 in
theorem gX10_worth_X10_requireDivision : GoodIn wsX10_worth (wsV RX10 230 RX10 yX10_requireDivision wsX10_requireDivision) := goodIn_app (goodIn_of _ (by decide +kernel)) ggX10_worth_X10_requireDivision
theorem dX10_worth_0 : decode cX10_worth 0 = .ok (.aload_n 0, 1) := by decide +kernel
theorem dX10_worth_1 : decode cX10_worth 1 = .ok (.invokevirtual 230, 3) := by decide +kernel
theorem dX10_worth_4 : decode cX10_worth 4 = .ok (.aload_n 0, 1) := by decide +kernel
theorem dX10_worth_5 : decode cX10_worth 5 = .ok (.getfield 33, 3) := by decide +kernel
theorem dX10_worth_8 : decode cX10_worth 8 = .ok (.getfield 233, 3) := by decide +kernel
theorem dX10_worth_11 : decode cX10_worth 11 = .ok (.ireturn, 1) := by decide +kernel
set_option maxRecDepth 100000 in
theorem ggX10_chapter_X10_requireDivision : GoodIn wsX10_chapter wsX10_requireDivision := goodIn_ca (goodIn_r _ [12, 13, 14, 3, 15, 16, 17, 18, 11, 19, 20, 7, 6, 5, 21, 22, 23, 24, 25, 26, 27, 28, 29, 30, 31, 32, 33, 34, 35, 36, 37, 38, 39, 40, 41, 42, 43, 44, 45, 46, 47, 48, 49, 50, 51, 52, 53, 54, 55, 56, 57, 58, 59, 60, 61, 62, 63, 64, 65, 66, 67, 68, 69, 70, 71, 72, 73, 74, 75, 76, 77, 78, 79, 80, 81, 82, 83, 84, 85, 86, 87, 88, 89, 90, 91, 92, 93, 94, 95, 96, 97, 98, 99, 100, 101, 102, 103, 104, 105, 106, 107, 108, 109, 110, 111, 112, 113, 114, 115, 116, 117, 118, 119, 120, 121, 122, 123, 124, 125, 126, 127, 128, 129, 130, 131, 132, 133, 134, 135, 136, 137, 138, 139, 140, 141, 142, 143, 144, 145, 146, 147, 148, 149, 150, 151, 152, 153, 154, 155, 156, 157, 158, 159, 160, 161, 162, 163, 164, 165, 166, 167, 168, 169, 170, 171, 172, 173, 174, 175, 176, 203, 204, 205, 206, 207, 208, 209, 210, 211, 212, 213, 214, 215, 216, 217, 218, 219, 220, 221, 222, 223, 224, 225, 226, 227, 228, 229, 230, 231, 232, 233, 234, 235, 236, 237, 238, 239, 240, 241, 242, 243, 244, 245, 246, 247, 248, 249] rfl (by decide +kernel)) (goodIn_sub (fun _ h => List.mem_cons_of_mem _ (List.mem_append_left _ (List.mem_append_right _ h))) (by decide +kernel))
set_option maxRecDepth 100000 in
theorem gX10_chapter_X10_requireDivision : GoodIn wsX10_chapter (wsV RX10 230 RX10 yX10_requireDivision wsX10_requireDivision) := goodIn_app (goodIn_of _ (by decide +kernel)) ggX10_chapter_X10_requireDivision
set_option maxRecDepth 100000 in
theorem ggX10_chapter_X10_requireChapter : GoodIn wsX10_chapter wsX10_requireChapter := goodIn_ca (goodIn_r _ [180, 181, 182, 3, 15, 203, 204, 205, 206, 207, 208, 209, 210, 211, 212, 213, 214, 215, 216, 217, 218, 219, 220, 221, 222, 223, 224, 225] rfl (by decide +kernel)) (goodIn_sub (fun _ h => List.mem_cons_of_mem _ (List.mem_append_right _ h)) (by decide +kernel))
set_option maxRecDepth 100000 in
theorem gX10_chapter_X10_requireChapter : GoodIn wsX10_chapter (wsV RX10 236 RX10 yX10_requireChapter wsX10_requireChapter) := goodIn_app (goodIn_of _ (by decide +kernel)) ggX10_chapter_X10_requireChapter
set_option maxRecDepth 100000 in
theorem ggX10_chapter_X0_lastOf : GoodIn wsX10_chapter wsX0_lastOf := goodIn_r _ [175, 35, 102, 29, 211, 212, 213, 214, 215, 216, 217, 218, 219, 220, 221, 222, 223, 224, 225] rfl (by decide +kernel)
set_option maxRecDepth 100000 in
theorem gX10_chapter_X0_lastOf : GoodIn wsX10_chapter (wsV RX10 242 RX0 yX0_lastOf wsX0_lastOf) := goodIn_app (goodIn_of _ (by decide +kernel)) ggX10_chapter_X0_lastOf
set_option maxRecDepth 100000 in
theorem ggX10_chapter_X0_durationFrom : GoodIn wsX10_chapter wsX0_durationFrom := goodIn_r _ [90, 33, 211, 212, 213, 214, 215, 216, 217, 218, 219, 220, 221, 222, 223, 224, 225] rfl (by decide +kernel)
set_option maxRecDepth 100000 in
theorem gX10_chapter_X0_durationFrom : GoodIn wsX10_chapter (wsV RX10 245 RX0 yX0_durationFrom wsX0_durationFrom) := goodIn_app (goodIn_of _ (by decide +kernel)) ggX10_chapter_X0_durationFrom
set_option maxRecDepth 100000 in
theorem ggX10_chapter_X8_differentWords : GoodIn wsX10_chapter wsX8_differentWords := goodIn_r _ [188, 189, 190, 191, 165, 192, 167, 248, 249] rfl (by decide +kernel)
set_option maxRecDepth 100000 in
theorem gX10_chapter_X8_differentWords : GoodIn wsX10_chapter (wsV RX10 248 RX8 yX8_differentWords wsX8_differentWords) := goodIn_app (goodIn_of _ (by decide +kernel)) ggX10_chapter_X8_differentWords
set_option maxRecDepth 100000 in
theorem ggX10_chapter_X4_realTime : GoodIn wsX10_chapter wsX4_realTime := goodIn_r _ [196, 109, 160, 113, 114, 161, 197, 198, 199, 200, 39, 201, 202, 37, 38, 40, 41, 42, 226, 227, 228, 229, 238, 239, 240, 241, 242, 243, 244, 245, 246, 247, 230, 231, 232, 233, 234, 235, 236, 237] rfl (by decide +kernel)
set_option maxRecDepth 100000 in
theorem gX10_chapter_X4_realTime : GoodIn wsX10_chapter (wsV RX10 171 RX4 yX4_realTime wsX4_realTime) := goodIn_app (goodIn_of _ (by decide +kernel)) ggX10_chapter_X4_realTime
theorem dX10_chapter_0 : decode cX10_chapter 0 = .ok (.aload_n 0, 1) := by decide +kernel
theorem dX10_chapter_1 : decode cX10_chapter 1 = .ok (.invokevirtual 230, 3) := by decide +kernel
theorem dX10_chapter_4 : decode cX10_chapter 4 = .ok (.aload_n 0, 1) := by decide +kernel
theorem dX10_chapter_5 : decode cX10_chapter 5 = .ok (.iload_n 1, 1) := by decide +kernel
theorem dX10_chapter_6 : decode cX10_chapter 6 = .ok (.invokevirtual 236, 3) := by decide +kernel
theorem dX10_chapter_9 : decode cX10_chapter 9 = .ok (.aload_n 0, 1) := by decide +kernel
theorem dX10_chapter_10 : decode cX10_chapter 10 = .ok (.getfield 33, 3) := by decide +kernel
theorem dX10_chapter_13 : decode cX10_chapter 13 = .ok (.getfield 239, 3) := by decide +kernel
theorem dX10_chapter_16 : decode cX10_chapter 16 = .ok (.iload_n 1, 1) := by decide +kernel
theorem dX10_chapter_17 : decode cX10_chapter 17 = .ok (.iaload, 1) := by decide +kernel
theorem dX10_chapter_18 : decode cX10_chapter 18 = .ok (.istore_n 3, 1) := by decide +kernel
theorem dX10_chapter_19 : decode cX10_chapter 19 = .ok (.aload_n 0, 1) := by decide +kernel
theorem dX10_chapter_20 : decode cX10_chapter 20 = .ok (.getfield 33, 3) := by decide +kernel
theorem dX10_chapter_23 : decode cX10_chapter 23 = .ok (.iload_n 1, 1) := by decide +kernel
theorem dX10_chapter_24 : decode cX10_chapter 24 = .ok (.invokevirtual 242, 3) := by decide +kernel
theorem dX10_chapter_27 : decode cX10_chapter 27 = .ok (.istore 4, 2) := by decide +kernel
theorem dX10_chapter_29 : decode cX10_chapter 29 = .ok (.iload_n 2, 1) := by decide +kernel
theorem dX10_chapter_30 : decode cX10_chapter 30 = .ok (.tableswitch 72 0 4 #[34, 36, 39, 50, 59], 34) := by decide +kernel
theorem dX10_chapter_64 : decode cX10_chapter 64 = .ok (.iload_n 3, 1) := by decide +kernel
theorem dX10_chapter_65 : decode cX10_chapter 65 = .ok (.ireturn, 1) := by decide +kernel
theorem dX10_chapter_66 : decode cX10_chapter 66 = .ok (.iload 4, 2) := by decide +kernel
theorem dX10_chapter_68 : decode cX10_chapter 68 = .ok (.ireturn, 1) := by decide +kernel
theorem dX10_chapter_69 : decode cX10_chapter 69 = .ok (.aload_n 0, 1) := by decide +kernel
theorem dX10_chapter_70 : decode cX10_chapter 70 = .ok (.getfield 33, 3) := by decide +kernel
theorem dX10_chapter_73 : decode cX10_chapter 73 = .ok (.iload_n 3, 1) := by decide +kernel
theorem dX10_chapter_74 : decode cX10_chapter 74 = .ok (.iload 4, 2) := by decide +kernel
theorem dX10_chapter_76 : decode cX10_chapter 76 = .ok (.invokevirtual 245, 3) := by decide +kernel
theorem dX10_chapter_79 : decode cX10_chapter 79 = .ok (.ireturn, 1) := by decide +kernel
theorem dX10_chapter_80 : decode cX10_chapter 80 = .ok (.aload_n 0, 1) := by decide +kernel
theorem dX10_chapter_81 : decode cX10_chapter 81 = .ok (.getfield 47, 3) := by decide +kernel
theorem dX10_chapter_84 : decode cX10_chapter 84 = .ok (.iload_n 1, 1) := by decide +kernel
theorem dX10_chapter_85 : decode cX10_chapter 85 = .ok (.invokevirtual 248, 3) := by decide +kernel
theorem dX10_chapter_88 : decode cX10_chapter 88 = .ok (.ireturn, 1) := by decide +kernel
theorem dX10_chapter_89 : decode cX10_chapter 89 = .ok (.aload_n 0, 1) := by decide +kernel
theorem dX10_chapter_90 : decode cX10_chapter 90 = .ok (.getfield 40, 3) := by decide +kernel
theorem dX10_chapter_93 : decode cX10_chapter 93 = .ok (.aload_n 0, 1) := by decide +kernel
theorem dX10_chapter_94 : decode cX10_chapter 94 = .ok (.getfield 12, 3) := by decide +kernel
theorem dX10_chapter_97 : decode cX10_chapter 97 = .ok (.iload_n 3, 1) := by decide +kernel
theorem dX10_chapter_98 : decode cX10_chapter 98 = .ok (.invokevirtual 171, 3) := by decide +kernel
theorem dX10_chapter_101 : decode cX10_chapter 101 = .ok (.ireturn, 1) := by decide +kernel
theorem dX10_chapter_102 : decode cX10_chapter 102 = .ok (.new 81, 3) := by decide +kernel
theorem dX10_chapter_105 : decode cX10_chapter 105 = .ok (.dup, 1) := by decide +kernel
theorem dX10_chapter_106 : decode cX10_chapter 106 = .ok (.ldc 251, 2) := by decide +kernel
theorem dX10_chapter_108 : decode cX10_chapter 108 = .ok (.invokespecial 85, 3) := by decide +kernel
theorem dX10_chapter_111 : decode cX10_chapter 111 = .ok (.athrow, 1) := by decide +kernel
set_option maxRecDepth 100000 in
theorem ggX10_chapterOf_X10_requireSegment : GoodIn wsX10_chapterOf wsX10_requireSegment := goodIn_ca (goodIn_r _ [8, 9, 10, 11, 12, 13, 176, 177, 178, 179, 180, 181, 182, 183, 199, 200, 201, 202, 203, 204, 205, 206, 207, 208, 209, 210] rfl (by decide +kernel)) (goodIn_sub (fun _ h => List.mem_cons_of_mem _ (List.mem_append_right _ h)) (by decide +kernel))
set_option maxRecDepth 100000 in
theorem gX10_chapterOf_X10_requireSegment : GoodIn wsX10_chapterOf (wsV RX10 156 RX10 yX10_requireSegment wsX10_requireSegment) := goodIn_app (goodIn_of _ (by decide +kernel)) ggX10_chapterOf_X10_requireSegment
set_option maxRecDepth 100000 in
theorem ggX10_chapterOf_X10_refresh : GoodIn wsX10_chapterOf wsX10_refresh := goodIn_r _ [17, 18, 1, 11, 19, 20, 12, 21, 22, 23, 24, 25, 26, 27, 28, 29, 30, 31, 32, 33, 34, 35, 36, 37, 38, 39, 40, 41, 42, 43, 44, 45, 46, 47, 48, 49, 50, 51, 52, 53, 54, 55, 56, 57, 58, 59, 60, 61, 62, 63, 64, 65, 66, 67, 68, 69, 70, 71, 72, 73, 7, 74, 75, 76, 77, 78, 79, 80, 81, 82, 83, 84, 85, 86, 87, 88, 89, 90, 91, 92, 93, 94, 95, 96, 97, 98, 99, 100, 101, 102, 103, 104, 105, 106, 107, 108, 109, 110, 111, 112, 113, 114, 115, 116, 117, 118, 119, 120, 121, 122, 123, 124, 125, 126, 127, 128, 129, 130, 131, 132, 133, 134, 135, 136, 137, 138, 139, 140, 141, 142, 143, 144, 145, 146, 147, 148, 149, 150, 151, 152, 153, 154, 155, 156, 157, 158, 159, 160, 161, 162, 163, 164, 165, 166, 167, 168, 169, 170, 171, 172, 173, 174, 175, 176, 177, 178, 179, 180, 181, 182, 183, 199, 200, 201, 202, 203, 204, 205, 206, 207, 208, 209, 210, 184, 185, 186, 187, 188, 189, 190, 191, 192, 193, 194, 195, 196, 197, 198, 211, 212, 213, 214, 215, 216, 217, 218, 219, 220, 221, 222] rfl (by decide +kernel)
set_option maxRecDepth 100000 in
theorem gX10_chapterOf_X10_refresh : GoodIn wsX10_chapterOf (wsV RX10 168 RX10 yX10_refresh wsX10_refresh) := goodIn_app (goodIn_of _ (by decide +kernel)) ggX10_chapterOf_X10_refresh
theorem dX10_chapterOf_0 : decode cX10_chapterOf 0 = .ok (.aload_n 0, 1) := by decide +kernel
theorem dX10_chapterOf_1 : decode cX10_chapterOf 1 = .ok (.iload_n 1, 1) := by decide +kernel
theorem dX10_chapterOf_2 : decode cX10_chapterOf 2 = .ok (.invokevirtual 156, 3) := by decide +kernel
theorem dX10_chapterOf_5 : decode cX10_chapterOf 5 = .ok (.aload_n 0, 1) := by decide +kernel
theorem dX10_chapterOf_6 : decode cX10_chapterOf 6 = .ok (.invokevirtual 168, 3) := by decide +kernel
theorem dX10_chapterOf_9 : decode cX10_chapterOf 9 = .ok (.aload_n 0, 1) := by decide +kernel
theorem dX10_chapterOf_10 : decode cX10_chapterOf 10 = .ok (.getfield 33, 3) := by decide +kernel
theorem dX10_chapterOf_13 : decode cX10_chapterOf 13 = .ok (.getfield 227, 3) := by decide +kernel
theorem dX10_chapterOf_16 : decode cX10_chapterOf 16 = .ok (.ifCond .le 15, 3) := by decide +kernel
theorem dX10_chapterOf_19 : decode cX10_chapterOf 19 = .ok (.aload_n 0, 1) := by decide +kernel
theorem dX10_chapterOf_20 : decode cX10_chapterOf 20 = .ok (.getfield 33, 3) := by decide +kernel
theorem dX10_chapterOf_23 : decode cX10_chapterOf 23 = .ok (.getfield 253, 3) := by decide +kernel
theorem dX10_chapterOf_26 : decode cX10_chapterOf 26 = .ok (.iload_n 1, 1) := by decide +kernel
theorem dX10_chapterOf_27 : decode cX10_chapterOf 27 = .ok (.iaload, 1) := by decide +kernel
theorem dX10_chapterOf_28 : decode cX10_chapterOf 28 = .ok (.goto 4, 3) := by decide +kernel
theorem dX10_chapterOf_31 : decode cX10_chapterOf 31 = .ok (.iconst (-1), 1) := by decide +kernel
theorem dX10_chapterOf_32 : decode cX10_chapterOf 32 = .ok (.ireturn, 1) := by decide +kernel
set_option maxRecDepth 100000 in
theorem ggX10_worthOf_X10_requireCuts : GoodIn wsX10_worthOf wsX10_requireCuts := goodIn_ca (goodIn_r _ [8, 9, 10, 2, 11, 12, 13, 14, 15, 16, 17, 179, 180, 181, 182, 183, 184, 185, 186, 187, 188, 189, 190, 191, 192, 193, 194, 195, 196, 197, 198] rfl (by decide +kernel)) (goodIn_sub (fun _ h => List.mem_cons_of_mem _ (List.mem_append_right _ h)) (by decide +kernel))
set_option maxRecDepth 100000 in
theorem gX10_worthOf_X10_requireCuts : GoodIn wsX10_worthOf (wsV RX10 256 RX10 yX10_requireCuts wsX10_requireCuts) := goodIn_app (goodIn_of _ (by decide +kernel)) ggX10_worthOf_X10_requireCuts
set_option maxRecDepth 100000 in
theorem ggX10_worthOf_X10_refresh : GoodIn wsX10_worthOf wsX10_refresh := goodIn_r _ [21, 22, 1, 2, 23, 24, 11, 25, 26, 27, 28, 29, 30, 31, 32, 33, 34, 35, 36, 37, 38, 39, 40, 41, 15, 42, 43, 44, 45, 46, 47, 48, 49, 50, 51, 52, 53, 54, 55, 56, 57, 58, 59, 60, 61, 62, 63, 64, 65, 66, 67, 68, 69, 70, 71, 72, 73, 74, 75, 76, 7, 77, 78, 79, 80, 81, 82, 83, 84, 85, 86, 87, 88, 89, 90, 91, 92, 93, 94, 95, 96, 97, 98, 99, 100, 101, 102, 103, 104, 105, 106, 107, 108, 109, 110, 111, 112, 113, 114, 115, 116, 117, 118, 13, 14, 16, 17, 119, 120, 121, 122, 123, 124, 125, 126, 127, 128, 129, 130, 131, 132, 133, 134, 135, 136, 137, 138, 139, 140, 141, 142, 143, 144, 145, 146, 147, 148, 149, 150, 151, 152, 153, 154, 155, 156, 157, 158, 159, 160, 161, 162, 163, 164, 165, 166, 167, 168, 169, 170, 171, 172, 173, 174, 179, 180, 181, 182, 183, 184, 185, 186, 187, 188, 189, 190, 191, 192, 193, 194, 195, 196, 197, 198, 199, 200, 201, 202, 203, 204, 205, 206, 207, 208, 209, 210, 211, 212, 213, 214, 215, 216, 217, 218, 219, 220, 221, 222, 223, 224, 225] rfl (by decide +kernel)
set_option maxRecDepth 100000 in
theorem gX10_worthOf_X10_refresh : GoodIn wsX10_worthOf (wsV RX10 168 RX10 yX10_refresh wsX10_refresh) := goodIn_app (goodIn_of _ (by decide +kernel)) ggX10_worthOf_X10_refresh
set_option maxRecDepth 100000 in
theorem ggX10_worthOf_X0_worthOfCuts : GoodIn wsX10_worthOf wsX0_worthOfCuts := goodIn_r _ [178, 32, 37, 199, 200, 201, 202, 203, 204, 205, 206, 207, 208, 209, 210, 211, 212, 213] rfl (by decide +kernel)
set_option maxRecDepth 100000 in
theorem gX10_worthOf_X0_worthOfCuts : GoodIn wsX10_worthOf (wsV RX10 259 RX0 yX0_worthOfCuts wsX0_worthOfCuts) := goodIn_app (goodIn_of _ (by decide +kernel)) ggX10_worthOf_X0_worthOfCuts
theorem dX10_worthOf_0 : decode cX10_worthOf 0 = .ok (.aload_n 0, 1) := by decide +kernel
theorem dX10_worthOf_1 : decode cX10_worthOf 1 = .ok (.iload_n 1, 1) := by decide +kernel
theorem dX10_worthOf_2 : decode cX10_worthOf 2 = .ok (.invokevirtual 256, 3) := by decide +kernel
theorem dX10_worthOf_5 : decode cX10_worthOf 5 = .ok (.aload_n 0, 1) := by decide +kernel
theorem dX10_worthOf_6 : decode cX10_worthOf 6 = .ok (.invokevirtual 168, 3) := by decide +kernel
theorem dX10_worthOf_9 : decode cX10_worthOf 9 = .ok (.aload_n 0, 1) := by decide +kernel
theorem dX10_worthOf_10 : decode cX10_worthOf 10 = .ok (.getfield 33, 3) := by decide +kernel
theorem dX10_worthOf_13 : decode cX10_worthOf 13 = .ok (.iload_n 1, 1) := by decide +kernel
theorem dX10_worthOf_14 : decode cX10_worthOf 14 = .ok (.aload_n 0, 1) := by decide +kernel
theorem dX10_worthOf_15 : decode cX10_worthOf 15 = .ok (.getfield 12, 3) := by decide +kernel
theorem dX10_worthOf_18 : decode cX10_worthOf 18 = .ok (.getfield 134, 3) := by decide +kernel
theorem dX10_worthOf_21 : decode cX10_worthOf 21 = .ok (.iconst 3, 1) := by decide +kernel
theorem dX10_worthOf_22 : decode cX10_worthOf 22 = .ok (.iaload, 1) := by decide +kernel
theorem dX10_worthOf_23 : decode cX10_worthOf 23 = .ok (.invokevirtual 259, 3) := by decide +kernel
theorem dX10_worthOf_26 : decode cX10_worthOf 26 = .ok (.ireturn, 1) := by decide +kernel
set_option maxRecDepth 100000 in
theorem ggX10_isAllowed_X10_requireCuts : GoodIn wsX10_isAllowed wsX10_requireCuts := goodIn_ca (goodIn_r _ [6, 7, 8, 9, 10, 11, 12, 13, 14, 15, 16, 178, 179, 180, 181, 182, 183, 184, 185, 186, 187, 188, 189, 190, 191, 192, 193, 194, 195, 196, 197] rfl (by decide +kernel)) (goodIn_sub (fun _ h => List.mem_cons_of_mem _ (List.mem_append_right _ h)) (by decide +kernel))
set_option maxRecDepth 100000 in
theorem gX10_isAllowed_X10_requireCuts : GoodIn wsX10_isAllowed (wsV RX10 256 RX10 yX10_requireCuts wsX10_requireCuts) := goodIn_app (goodIn_of _ (by decide +kernel)) ggX10_isAllowed_X10_requireCuts
set_option maxRecDepth 100000 in
theorem ggX10_isAllowed_X10_refresh : GoodIn wsX10_isAllowed wsX10_refresh := goodIn_r _ [20, 21, 1, 9, 22, 23, 10, 24, 25, 26, 27, 28, 29, 30, 31, 32, 33, 34, 35, 36, 37, 38, 39, 40, 14, 41, 42, 43, 44, 45, 46, 47, 48, 49, 50, 51, 52, 53, 54, 55, 56, 57, 58, 59, 60, 61, 62, 63, 64, 65, 66, 67, 68, 69, 70, 71, 72, 73, 74, 75, 5, 76, 77, 78, 79, 80, 81, 82, 83, 84, 85, 86, 87, 88, 89, 90, 91, 92, 93, 94, 95, 96, 97, 98, 99, 100, 101, 102, 103, 104, 105, 106, 107, 108, 109, 110, 111, 112, 113, 114, 115, 116, 117, 12, 13, 15, 16, 118, 119, 120, 121, 122, 123, 124, 125, 126, 127, 128, 129, 130, 131, 132, 133, 134, 135, 136, 137, 138, 139, 140, 141, 142, 143, 144, 145, 146, 147, 148, 149, 150, 151, 152, 153, 154, 155, 156, 157, 158, 159, 160, 161, 162, 163, 164, 165, 166, 167, 168, 169, 170, 171, 172, 173, 178, 179, 180, 181, 182, 183, 184, 185, 186, 187, 188, 189, 190, 191, 192, 193, 194, 195, 196, 197, 198, 199, 200, 201, 202, 203, 204, 205, 206, 207, 208, 209, 210, 211, 212, 213, 214, 215, 216, 217, 218, 219, 220, 221, 222, 223, 224] rfl (by decide +kernel)
set_option maxRecDepth 100000 in
theorem gX10_isAllowed_X10_refresh : GoodIn wsX10_isAllowed (wsV RX10 168 RX10 yX10_refresh wsX10_refresh) := goodIn_app (goodIn_of _ (by decide +kernel)) ggX10_isAllowed_X10_refresh
set_option maxRecDepth 100000 in
theorem ggX10_isAllowed_X0_allows : GoodIn wsX10_isAllowed wsX0_allows := goodIn_r _ [177, 31, 84, 85, 86, 27, 87, 33, 34, 88, 89, 90, 91, 35, 198, 199, 200, 201, 202, 203, 204, 205, 206, 207, 208, 209, 210, 211, 212] rfl (by decide +kernel)
set_option maxRecDepth 100000 in
theorem gX10_isAllowed_X0_allows : GoodIn wsX10_isAllowed (wsV RX10 262 RX0 yX0_allows wsX0_allows) := goodIn_app (goodIn_of _ (by decide +kernel)) ggX10_isAllowed_X0_allows
theorem dX10_isAllowed_0 : decode cX10_isAllowed 0 = .ok (.aload_n 0, 1) := by decide +kernel
theorem dX10_isAllowed_1 : decode cX10_isAllowed 1 = .ok (.iload_n 1, 1) := by decide +kernel
theorem dX10_isAllowed_2 : decode cX10_isAllowed 2 = .ok (.invokevirtual 256, 3) := by decide +kernel
theorem dX10_isAllowed_5 : decode cX10_isAllowed 5 = .ok (.aload_n 0, 1) := by decide +kernel
theorem dX10_isAllowed_6 : decode cX10_isAllowed 6 = .ok (.invokevirtual 168, 3) := by decide +kernel
theorem dX10_isAllowed_9 : decode cX10_isAllowed 9 = .ok (.aload_n 0, 1) := by decide +kernel
theorem dX10_isAllowed_10 : decode cX10_isAllowed 10 = .ok (.getfield 33, 3) := by decide +kernel
theorem dX10_isAllowed_13 : decode cX10_isAllowed 13 = .ok (.iload_n 1, 1) := by decide +kernel
theorem dX10_isAllowed_14 : decode cX10_isAllowed 14 = .ok (.invokevirtual 262, 3) := by decide +kernel
theorem dX10_isAllowed_17 : decode cX10_isAllowed 17 = .ok (.ireturn, 1) := by decide +kernel
set_option maxRecDepth 100000 in
theorem ggX10_divisions_X10_refresh : GoodIn wsX10_divisions wsX10_refresh := goodIn_r _ [6, 7, 1, 8, 9, 10, 11, 12, 13, 14, 15, 16, 17, 18, 19, 20, 21, 22, 23, 24, 25, 26, 27, 28, 29, 30, 31, 32, 33, 34, 35, 36, 37, 38, 39, 40, 41, 42, 43, 44, 45, 46, 47, 48, 49, 50, 51, 52, 53, 54, 55, 56, 57, 58, 59, 60, 61, 62, 63, 64, 5, 65, 66, 67, 68, 69, 70, 71, 72, 73, 74, 75, 76, 77, 78, 79, 80, 81, 82, 83, 84, 85, 86, 87, 88, 89, 90, 91, 92, 93, 94, 95, 96, 97, 98, 99, 100, 101, 102, 103, 104, 105, 106, 107, 108, 109, 110, 111, 112, 113, 114, 115, 116, 117, 118, 119, 120, 121, 122, 123, 124, 125, 126, 127, 128, 129, 130, 131, 132, 133, 134, 135, 136, 137, 138, 139, 140, 141, 142, 143, 144, 145, 146, 147, 148, 149, 150, 151, 152, 153, 154, 155, 156, 157, 158, 159, 160, 161, 162, 163, 164, 165, 166, 172, 173, 174, 175, 176, 177, 178, 179, 180, 181, 182, 183, 184, 185, 186, 187, 188, 189, 190, 191, 192, 193, 194, 195, 196, 197, 198, 199, 200, 201, 202, 203, 204, 205, 206, 207, 208, 209, 210, 211, 212, 213, 214, 215, 216, 217, 218] rfl (by decide +kernel)
set_option maxRecDepth 100000 in
theorem gX10_divisions_X10_refresh : GoodIn wsX10_divisions (wsV RX10 168 RX10 yX10_refresh wsX10_refresh) := goodIn_app (goodIn_of _ (by decide +kernel)) ggX10_divisions_X10_refresh
set_option maxRecDepth 100000 in
theorem ggX10_divisions_X0_countAllowed : GoodIn wsX10_divisions wsX0_countAllowed := goodIn_r _ [170, 171, 19, 73, 74, 75, 15, 76, 21, 22, 77, 78, 79, 80, 23, 192, 193, 194, 195, 196, 197, 198, 199, 200, 201, 202, 203, 204, 205, 206] rfl (by decide +kernel)
set_option maxRecDepth 100000 in
theorem gX10_divisions_X0_countAllowed : GoodIn wsX10_divisions (wsV RX10 266 RX0 yX0_countAllowed wsX0_countAllowed) := goodIn_app (goodIn_of _ (by decide +kernel)) ggX10_divisions_X0_countAllowed
theorem dX10_divisions_0 : decode cX10_divisions 0 = .ok (.aload_n 0, 1) := by decide +kernel
theorem dX10_divisions_1 : decode cX10_divisions 1 = .ok (.invokevirtual 168, 3) := by decide +kernel
theorem dX10_divisions_4 : decode cX10_divisions 4 = .ok (.aload_n 0, 1) := by decide +kernel
theorem dX10_divisions_5 : decode cX10_divisions 5 = .ok (.getfield 33, 3) := by decide +kernel
theorem dX10_divisions_8 : decode cX10_divisions 8 = .ok (.invokevirtual 266, 3) := by decide +kernel
theorem dX10_divisions_11 : decode cX10_divisions 11 = .ok (.lreturn, 1) := by decide +kernel
set_option maxRecDepth 100000 in
theorem ggX10_worthWith_X10_requireBoundary : GoodIn wsX10_worthWith wsX10_requireBoundary := goodIn_ca (goodIn_r _ [11, 12, 13, 4, 14, 15, 16, 17, 18, 19, 20, 179, 180, 181, 182, 183, 184, 185, 186, 187, 188, 189, 190, 206, 207, 208, 209, 210, 211, 212, 213] rfl (by decide +kernel)) (goodIn_sub (fun _ h => List.mem_cons_of_mem _ (List.mem_append_right _ h)) (by decide +kernel))
set_option maxRecDepth 100000 in
theorem gX10_worthWith_X10_requireBoundary : GoodIn wsX10_worthWith (wsV RX10 221 RX10 yX10_requireBoundary wsX10_requireBoundary) := goodIn_app (goodIn_of _ (by decide +kernel)) ggX10_worthWith_X10_requireBoundary
set_option maxRecDepth 100000 in
theorem ggX10_worthWith_X10_refresh : GoodIn wsX10_worthWith wsX10_refresh := goodIn_r _ [24, 25, 3, 4, 26, 27, 14, 28, 29, 30, 31, 32, 33, 34, 35, 36, 37, 38, 39, 40, 41, 42, 43, 44, 18, 45, 46, 47, 48, 49, 50, 51, 52, 53, 54, 55, 56, 57, 58, 59, 60, 61, 62, 63, 64, 65, 66, 67, 68, 69, 70, 71, 72, 73, 74, 75, 76, 77, 78, 79, 10, 80, 81, 82, 83, 84, 85, 86, 87, 88, 89, 90, 91, 92, 93, 94, 95, 96, 97, 98, 99, 100, 101, 102, 103, 104, 105, 106, 107, 108, 109, 110, 111, 112, 113, 114, 115, 116, 117, 118, 119, 120, 121, 16, 17, 19, 20, 122, 123, 124, 125, 126, 127, 128, 129, 130, 131, 132, 133, 134, 135, 136, 137, 138, 139, 140, 141, 142, 143, 144, 145, 146, 147, 148, 149, 150, 151, 152, 153, 154, 155, 156, 157, 158, 159, 160, 161, 162, 163, 164, 165, 166, 167, 168, 169, 170, 171, 172, 173, 174, 175, 176, 177, 179, 180, 181, 182, 183, 184, 185, 186, 187, 188, 189, 190, 206, 207, 208, 209, 210, 211, 212, 213, 191, 192, 193, 194, 195, 196, 197, 198, 199, 200, 201, 202, 203, 204, 205, 214, 215, 216, 217, 218, 219, 220, 221, 222, 223, 224, 225] rfl (by decide +kernel)
set_option maxRecDepth 100000 in
theorem gX10_worthWith_X10_refresh : GoodIn wsX10_worthWith (wsV RX10 168 RX10 yX10_refresh wsX10_refresh) := goodIn_app (goodIn_of _ (by decide +kernel)) ggX10_worthWith_X10_refresh
set_option maxRecDepth 100000 in
theorem ggX10_worthWith_X0_solve : GoodIn wsX10_worthWith wsX0_solve := goodIn_r _ [86, 35, 87, 88, 89, 90, 31, 91, 37, 38, 92, 93, 94, 95, 39, 96, 97, 98, 99, 40, 100, 101, 191, 192, 193, 194, 195, 196, 197, 198, 199, 200, 201, 202, 203, 204, 205] rfl (by decide +kernel)
set_option maxRecDepth 100000 in
theorem gX10_worthWith_X0_solve : GoodIn wsX10_worthWith (wsV RX10 270 RX0 yX0_solve wsX0_solve) := goodIn_app (goodIn_of _ (by decide +kernel)) ggX10_worthWith_X0_solve
theorem dX10_worthWith_0 : decode cX10_worthWith 0 = .ok (.aload_n 0, 1) := by decide +kernel
theorem dX10_worthWith_1 : decode cX10_worthWith 1 = .ok (.iload_n 1, 1) := by decide +kernel
theorem dX10_worthWith_2 : decode cX10_worthWith 2 = .ok (.invokevirtual 221, 3) := by decide +kernel
theorem dX10_worthWith_5 : decode cX10_worthWith 5 = .ok (.aload_n 0, 1) := by decide +kernel
theorem dX10_worthWith_6 : decode cX10_worthWith 6 = .ok (.invokevirtual 168, 3) := by decide +kernel
theorem dX10_worthWith_9 : decode cX10_worthWith 9 = .ok (.iload_n 2, 1) := by decide +kernel
theorem dX10_worthWith_10 : decode cX10_worthWith 10 = .ok (.ifCond .eq 7, 3) := by decide +kernel
theorem dX10_worthWith_13 : decode cX10_worthWith 13 = .ok (.iload_n 1, 1) := by decide +kernel
theorem dX10_worthWith_14 : decode cX10_worthWith 14 = .ok (.goto 4, 3) := by decide +kernel
theorem dX10_worthWith_17 : decode cX10_worthWith 17 = .ok (.iconst (-1), 1) := by decide +kernel
theorem dX10_worthWith_18 : decode cX10_worthWith 18 = .ok (.istore_n 3, 1) := by decide +kernel
theorem dX10_worthWith_19 : decode cX10_worthWith 19 = .ok (.iload_n 2, 1) := by decide +kernel
theorem dX10_worthWith_20 : decode cX10_worthWith 20 = .ok (.ifCond .eq 7, 3) := by decide +kernel
theorem dX10_worthWith_23 : decode cX10_worthWith 23 = .ok (.iconst (-1), 1) := by decide +kernel
theorem dX10_worthWith_24 : decode cX10_worthWith 24 = .ok (.goto 4, 3) := by decide +kernel
theorem dX10_worthWith_27 : decode cX10_worthWith 27 = .ok (.iload_n 1, 1) := by decide +kernel
theorem dX10_worthWith_28 : decode cX10_worthWith 28 = .ok (.istore 4, 2) := by decide +kernel
theorem dX10_worthWith_30 : decode cX10_worthWith 30 = .ok (.aload_n 0, 1) := by decide +kernel
theorem dX10_worthWith_31 : decode cX10_worthWith 31 = .ok (.getfield 33, 3) := by decide +kernel
theorem dX10_worthWith_34 : decode cX10_worthWith 34 = .ok (.aload_n 0, 1) := by decide +kernel
theorem dX10_worthWith_35 : decode cX10_worthWith 35 = .ok (.getfield 12, 3) := by decide +kernel
theorem dX10_worthWith_38 : decode cX10_worthWith 38 = .ok (.getfield 134, 3) := by decide +kernel
theorem dX10_worthWith_41 : decode cX10_worthWith 41 = .ok (.iconst 3, 1) := by decide +kernel
theorem dX10_worthWith_42 : decode cX10_worthWith 42 = .ok (.iaload, 1) := by decide +kernel
theorem dX10_worthWith_43 : decode cX10_worthWith 43 = .ok (.iload_n 3, 1) := by decide +kernel
theorem dX10_worthWith_44 : decode cX10_worthWith 44 = .ok (.iload 4, 2) := by decide +kernel
theorem dX10_worthWith_46 : decode cX10_worthWith 46 = .ok (.invokevirtual 270, 3) := by decide +kernel
theorem dX10_worthWith_49 : decode cX10_worthWith 49 = .ok (.ifCond .ne 14, 3) := by decide +kernel
theorem dX10_worthWith_52 : decode cX10_worthWith 52 = .ok (.new 274, 3) := by decide +kernel
theorem dX10_worthWith_55 : decode cX10_worthWith 55 = .ok (.dup, 1) := by decide +kernel
theorem dX10_worthWith_56 : decode cX10_worthWith 56 = .ok (.ldc_w 276, 3) := by decide +kernel
theorem dX10_worthWith_59 : decode cX10_worthWith 59 = .ok (.invokespecial 278, 3) := by decide +kernel
theorem dX10_worthWith_62 : decode cX10_worthWith 62 = .ok (.athrow, 1) := by decide +kernel
theorem dX10_worthWith_63 : decode cX10_worthWith 63 = .ok (.aload_n 0, 1) := by decide +kernel
theorem dX10_worthWith_64 : decode cX10_worthWith 64 = .ok (.getfield 33, 3) := by decide +kernel
theorem dX10_worthWith_67 : decode cX10_worthWith 67 = .ok (.getfield 279, 3) := by decide +kernel
theorem dX10_worthWith_70 : decode cX10_worthWith 70 = .ok (.iconst 0, 1) := by decide +kernel
theorem dX10_worthWith_71 : decode cX10_worthWith 71 = .ok (.iaload, 1) := by decide +kernel
theorem dX10_worthWith_72 : decode cX10_worthWith 72 = .ok (.ireturn, 1) := by decide +kernel
set_option maxRecDepth 100000 in
theorem ggX10_priceFor_X10_requireRange : GoodIn wsX10_priceFor wsX10_requireRange := goodIn_ca (goodIn_r _ [8, 9, 10] rfl (by decide +kernel)) (goodIn_sub (fun _ h => List.mem_cons_of_mem _ (List.mem_append_right _ h)) (by decide +kernel))
set_option maxRecDepth 100000 in
theorem gX10_priceFor_X10_requireRange : GoodIn wsX10_priceFor (wsV RX10 152 RX10 yX10_requireRange wsX10_requireRange) := goodIn_app (goodIn_of _ (by decide +kernel)) ggX10_priceFor_X10_requireRange
set_option maxRecDepth 100000 in
theorem ggX10_priceFor_X10_refresh : GoodIn wsX10_priceFor wsX10_refresh := goodIn_r _ [14, 15, 3, 16, 17, 18, 19, 20, 21, 22, 23, 24, 25, 26, 27, 28, 29, 30, 31, 32, 33, 34, 35, 36, 37, 38, 39, 40, 41, 42, 43, 44, 45, 46, 47, 48, 49, 50, 51, 52, 53, 54, 55, 56, 57, 58, 59, 60, 61, 62, 63, 64, 65, 66, 67, 68, 69, 70, 71, 72, 7, 73, 74, 75, 76, 77, 78, 79, 80, 81, 82, 83, 84, 85, 86, 87, 88, 89, 90, 91, 92, 93, 94, 95, 96, 97, 98, 99, 100, 101, 102, 103, 104, 105, 106, 107, 108, 109, 110, 111, 112, 113, 114, 115, 116, 117, 118, 119, 120, 121, 122, 123, 124, 125, 126, 127, 128, 129, 130, 131, 132, 133, 134, 135, 136, 137, 138, 139, 140, 141, 142, 143, 144, 145, 146, 147, 148, 149, 150, 151, 152, 153, 154, 155, 156, 157, 158, 159, 160, 161, 162, 163, 164, 165, 166, 167, 168, 169, 170, 171, 172, 173, 174, 183, 184, 185, 186, 187, 188, 189, 190, 191, 192, 193, 194, 195, 196, 197, 198, 199, 200, 201, 202, 203, 204, 205, 206, 207, 208, 209, 210, 211, 212, 213, 214, 215, 216, 217, 218, 219, 220, 221, 222, 223, 224, 225, 226, 227, 228, 229] rfl (by decide +kernel)
set_option maxRecDepth 100000 in
theorem gX10_priceFor_X10_refresh : GoodIn wsX10_priceFor (wsV RX10 168 RX10 yX10_refresh wsX10_refresh) := goodIn_app (goodIn_of _ (by decide +kernel)) ggX10_priceFor_X10_refresh
set_option maxRecDepth 100000 in
theorem ggX10_priceFor_X0_greatestPrice : GoodIn wsX10_priceFor wsX0_greatestPrice := goodIn_r _ [178, 179, 180, 181, 23, 182, 94, 76, 77, 78, 79, 27, 80, 81, 82, 83, 84, 29, 30, 85, 86, 87, 88, 31, 89, 90, 91, 92, 32, 93, 203, 204, 205, 206, 207, 208, 209, 210, 211, 212, 213, 214, 215, 216, 217] rfl (by decide +kernel)
set_option maxRecDepth 100000 in
theorem gX10_priceFor_X0_greatestPrice : GoodIn wsX10_priceFor (wsV RX10 282 RX0 yX0_greatestPrice wsX0_greatestPrice) := goodIn_app (goodIn_of _ (by decide +kernel)) ggX10_priceFor_X0_greatestPrice
theorem dX10_priceFor_0 : decode cX10_priceFor 0 = .ok (.aload_n 0, 1) := by decide +kernel
theorem dX10_priceFor_1 : decode cX10_priceFor 1 = .ok (.iload_n 1, 1) := by decide +kernel
theorem dX10_priceFor_2 : decode cX10_priceFor 2 = .ok (.iconst 1, 1) := by decide +kernel
theorem dX10_priceFor_3 : decode cX10_priceFor 3 = .ok (.bipush 32, 2) := by decide +kernel
theorem dX10_priceFor_5 : decode cX10_priceFor 5 = .ok (.invokevirtual 152, 3) := by decide +kernel
theorem dX10_priceFor_8 : decode cX10_priceFor 8 = .ok (.aload_n 0, 1) := by decide +kernel
theorem dX10_priceFor_9 : decode cX10_priceFor 9 = .ok (.invokevirtual 168, 3) := by decide +kernel
theorem dX10_priceFor_12 : decode cX10_priceFor 12 = .ok (.aload_n 0, 1) := by decide +kernel
theorem dX10_priceFor_13 : decode cX10_priceFor 13 = .ok (.getfield 33, 3) := by decide +kernel
theorem dX10_priceFor_16 : decode cX10_priceFor 16 = .ok (.iload_n 1, 1) := by decide +kernel
theorem dX10_priceFor_17 : decode cX10_priceFor 17 = .ok (.invokevirtual 282, 3) := by decide +kernel
theorem dX10_priceFor_20 : decode cX10_priceFor 20 = .ok (.istore_n 2, 1) := by decide +kernel
theorem dX10_priceFor_21 : decode cX10_priceFor 21 = .ok (.iload_n 2, 1) := by decide +kernel
theorem dX10_priceFor_22 : decode cX10_priceFor 22 = .ok (.iconst (-1), 1) := by decide +kernel
theorem dX10_priceFor_23 : decode cX10_priceFor 23 = .ok (.if_icmp .ne 14, 3) := by decide +kernel
theorem dX10_priceFor_26 : decode cX10_priceFor 26 = .ok (.new 274, 3) := by decide +kernel
theorem dX10_priceFor_29 : decode cX10_priceFor 29 = .ok (.dup, 1) := by decide +kernel
theorem dX10_priceFor_30 : decode cX10_priceFor 30 = .ok (.ldc_w 285, 3) := by decide +kernel
theorem dX10_priceFor_33 : decode cX10_priceFor 33 = .ok (.invokespecial 278, 3) := by decide +kernel
theorem dX10_priceFor_36 : decode cX10_priceFor 36 = .ok (.athrow, 1) := by decide +kernel
theorem dX10_priceFor_37 : decode cX10_priceFor 37 = .ok (.iload_n 2, 1) := by decide +kernel
theorem dX10_priceFor_38 : decode cX10_priceFor 38 = .ok (.ireturn, 1) := by decide +kernel
set_option maxRecDepth 100000 in
theorem ggX10_chaptersWith_X10_requireDivision : GoodIn wsX10_chaptersWith wsX10_requireDivision := goodIn_ca (goodIn_r _ [7, 8, 9, 10, 11, 12, 13, 14, 6, 15, 16, 17, 18, 1, 19, 20, 21, 22, 23, 24, 25, 26, 27, 28, 29, 30, 31, 32, 33, 34, 35, 36, 37, 38, 39, 40, 41, 42, 43, 44, 45, 46, 47, 48, 49, 50, 51, 52, 53, 54, 55, 56, 57, 58, 59, 60, 61, 62, 63, 64, 65, 66, 67, 68, 69, 70, 71, 72, 73, 74, 75, 76, 77, 78, 79, 80, 81, 82, 83, 84, 85, 86, 87, 88, 89, 90, 91, 92, 93, 94, 95, 96, 97, 98, 99, 100, 101, 102, 103, 104, 105, 106, 107, 108, 109, 110, 111, 112, 113, 114, 115, 116, 117, 118, 119, 120, 121, 122, 123, 124, 125, 126, 127, 128, 129, 130, 131, 132, 133, 134, 135, 136, 137, 138, 139, 140, 141, 142, 143, 144, 145, 146, 147, 148, 149, 150, 151, 152, 153, 154, 155, 156, 157, 158, 159, 160, 161, 162, 163, 164, 165, 166, 167, 168, 169, 170, 171, 172, 173, 174, 182, 183, 184, 185, 186, 187, 188, 189, 192, 193, 194, 195, 196, 197, 198, 199, 200, 201, 202, 203, 204, 205, 206, 207, 208, 209, 210, 211, 212, 213, 214, 215, 216, 217, 218, 219, 220, 221, 222, 223, 224, 225, 226, 227, 228, 190, 191] rfl (by decide +kernel)) (goodIn_sub (fun _ h => List.mem_cons_of_mem _ (List.mem_append_left _ (List.mem_append_right _ h))) (by decide +kernel))
set_option maxRecDepth 100000 in
theorem gX10_chaptersWith_X10_requireDivision : GoodIn wsX10_chaptersWith (wsV RX10 230 RX10 yX10_requireDivision wsX10_requireDivision) := goodIn_app (goodIn_of _ (by decide +kernel)) ggX10_chaptersWith_X10_requireDivision
set_option maxRecDepth 100000 in
theorem ggX10_chaptersWith_X10_requireWord : GoodIn wsX10_chaptersWith wsX10_requireWord := goodIn_ca (goodIn_r _ [178, 179, 180, 17, 19, 181, 182, 183, 184, 185, 186, 187, 188, 189, 207, 208, 209, 210, 211, 212, 213, 214, 215, 216, 217, 218] rfl (by decide +kernel)) (goodIn_sub (fun _ h => List.mem_cons_of_mem _ (List.mem_append_right _ h)) (by decide +kernel))
set_option maxRecDepth 100000 in
theorem gX10_chaptersWith_X10_requireWord : GoodIn wsX10_chaptersWith (wsV RX10 190 RX10 yX10_requireWord wsX10_requireWord) := goodIn_app (goodIn_of _ (by decide +kernel)) ggX10_chaptersWith_X10_requireWord
theorem dX10_chaptersWith_0 : decode cX10_chaptersWith 0 = .ok (.aload_n 0, 1) := by decide +kernel
theorem dX10_chaptersWith_1 : decode cX10_chaptersWith 1 = .ok (.invokevirtual 230, 3) := by decide +kernel
theorem dX10_chaptersWith_4 : decode cX10_chaptersWith 4 = .ok (.aload_n 0, 1) := by decide +kernel
theorem dX10_chaptersWith_5 : decode cX10_chaptersWith 5 = .ok (.iload_n 1, 1) := by decide +kernel
theorem dX10_chaptersWith_6 : decode cX10_chaptersWith 6 = .ok (.invokevirtual 190, 3) := by decide +kernel
theorem dX10_chaptersWith_9 : decode cX10_chaptersWith 9 = .ok (.aload_n 0, 1) := by decide +kernel
theorem dX10_chaptersWith_10 : decode cX10_chaptersWith 10 = .ok (.getfield 47, 3) := by decide +kernel
theorem dX10_chaptersWith_13 : decode cX10_chaptersWith 13 = .ok (.getfield 287, 3) := by decide +kernel
theorem dX10_chaptersWith_16 : decode cX10_chaptersWith 16 = .ok (.iload_n 1, 1) := by decide +kernel
theorem dX10_chaptersWith_17 : decode cX10_chaptersWith 17 = .ok (.iaload, 1) := by decide +kernel
theorem dX10_chaptersWith_18 : decode cX10_chaptersWith 18 = .ok (.ireturn, 1) := by decide +kernel
set_option maxRecDepth 100000 in
theorem ggX10_typical_X10_requireDivision : GoodIn wsX10_typical wsX10_requireDivision := goodIn_ca (goodIn_r _ [10, 11, 12, 4, 13, 14, 15, 16, 9, 17, 18, 2, 19, 1, 3, 20, 21, 22, 23, 24, 25, 26, 27, 28, 29, 30, 31, 32, 33, 34, 35, 36, 37, 38, 39, 40, 41, 42, 43, 44, 45, 46, 47, 48, 49, 50, 51, 52, 53, 54, 55, 56, 57, 58, 59, 60, 61, 62, 63, 64, 65, 66, 67, 68, 69, 70, 71, 72, 73, 74, 75, 76, 77, 78, 79, 80, 81, 82, 83, 84, 85, 86, 87, 88, 89, 90, 91, 92, 93, 94, 95, 96, 97, 98, 99, 100, 101, 102, 103, 104, 105, 106, 107, 108, 109, 110, 111, 112, 113, 114, 115, 116, 117, 118, 119, 120, 121, 122, 123, 124, 125, 126, 127, 128, 129, 130, 131, 132, 133, 134, 135, 136, 137, 138, 139, 140, 141, 142, 143, 144, 145, 146, 147, 148, 149, 150, 151, 152, 153, 154, 155, 156, 157, 158, 159, 160, 161, 162, 163, 164, 165, 166, 167, 168, 169, 170, 171, 172, 173, 174, 192, 193, 194, 195, 196, 197, 198, 199, 204, 205, 206, 207, 208, 209, 210, 211, 212, 213, 214, 215, 216, 217, 218, 200, 201, 202, 203, 219, 220, 221, 222, 223, 224, 225, 226, 227, 228, 229, 230, 231, 232, 233, 234, 235, 236, 237, 238] rfl (by decide +kernel)) (goodIn_sub (fun _ h => List.mem_cons_of_mem _ (List.mem_append_left _ (List.mem_append_right _ h))) (by decide +kernel))
set_option maxRecDepth 100000 in
theorem gX10_typical_X10_requireDivision : GoodIn wsX10_typical (wsV RX10 230 RX10 yX10_requireDivision wsX10_requireDivision) := goodIn_app (goodIn_of _ (by decide +kernel)) ggX10_typical_X10_requireDivision
set_option maxRecDepth 100000 in
theorem ggX10_typical_X10_requireChapter : GoodIn wsX10_typical wsX10_requireChapter := goodIn_ca (goodIn_r _ [178, 179, 180, 4, 13, 192, 193, 194, 195, 196, 197, 198, 199, 204, 205, 206, 207, 208, 209, 210, 211, 212, 213, 214, 215, 216, 217, 218] rfl (by decide +kernel)) (goodIn_sub (fun _ h => List.mem_cons_of_mem _ (List.mem_append_right _ h)) (by decide +kernel))
set_option maxRecDepth 100000 in
theorem gX10_typical_X10_requireChapter : GoodIn wsX10_typical (wsV RX10 236 RX10 yX10_requireChapter wsX10_requireChapter) := goodIn_app (goodIn_of _ (by decide +kernel)) ggX10_typical_X10_requireChapter
set_option maxRecDepth 100000 in
theorem ggX10_typical_X0_lastOf : GoodIn wsX10_typical wsX0_lastOf := goodIn_r _ [173, 33, 100, 27, 204, 205, 206, 207, 208, 209, 210, 211, 212, 213, 214, 215, 216, 217, 218] rfl (by decide +kernel)
set_option maxRecDepth 100000 in
theorem gX10_typical_X0_lastOf : GoodIn wsX10_typical (wsV RX10 242 RX0 yX0_lastOf wsX0_lastOf) := goodIn_app (goodIn_of _ (by decide +kernel)) ggX10_typical_X0_lastOf
set_option maxRecDepth 100000 in
theorem ggX10_typical_X8_mostTypical : GoodIn wsX10_typical wsX8_mostTypical := goodIn_r _ [185, 186, 63, 64, 37, 65, 66, 40, 187, 68, 69, 70, 71, 188, 189, 190, 163, 191, 166, 165, 219, 220, 221, 222, 223, 224, 225, 226, 237, 238] rfl (by decide +kernel)
set_option maxRecDepth 100000 in
theorem gX10_typical_X8_mostTypical : GoodIn wsX10_typical (wsV RX10 290 RX8 yX8_mostTypical wsX8_mostTypical) := goodIn_app (goodIn_of _ (by decide +kernel)) ggX10_typical_X8_mostTypical
theorem dX10_typical_0 : decode cX10_typical 0 = .ok (.aload_n 0, 1) := by decide +kernel
theorem dX10_typical_1 : decode cX10_typical 1 = .ok (.invokevirtual 230, 3) := by decide +kernel
theorem dX10_typical_4 : decode cX10_typical 4 = .ok (.aload_n 0, 1) := by decide +kernel
theorem dX10_typical_5 : decode cX10_typical 5 = .ok (.iload_n 1, 1) := by decide +kernel
theorem dX10_typical_6 : decode cX10_typical 6 = .ok (.invokevirtual 236, 3) := by decide +kernel
theorem dX10_typical_9 : decode cX10_typical 9 = .ok (.aload_n 0, 1) := by decide +kernel
theorem dX10_typical_10 : decode cX10_typical 10 = .ok (.getfield 47, 3) := by decide +kernel
theorem dX10_typical_13 : decode cX10_typical 13 = .ok (.aload_n 0, 1) := by decide +kernel
theorem dX10_typical_14 : decode cX10_typical 14 = .ok (.getfield 12, 3) := by decide +kernel
theorem dX10_typical_17 : decode cX10_typical 17 = .ok (.getfield 102, 3) := by decide +kernel
theorem dX10_typical_20 : decode cX10_typical 20 = .ok (.iload_n 1, 1) := by decide +kernel
theorem dX10_typical_21 : decode cX10_typical 21 = .ok (.aload_n 0, 1) := by decide +kernel
theorem dX10_typical_22 : decode cX10_typical 22 = .ok (.getfield 33, 3) := by decide +kernel
theorem dX10_typical_25 : decode cX10_typical 25 = .ok (.getfield 239, 3) := by decide +kernel
theorem dX10_typical_28 : decode cX10_typical 28 = .ok (.iload_n 1, 1) := by decide +kernel
theorem dX10_typical_29 : decode cX10_typical 29 = .ok (.iaload, 1) := by decide +kernel
theorem dX10_typical_30 : decode cX10_typical 30 = .ok (.aload_n 0, 1) := by decide +kernel
theorem dX10_typical_31 : decode cX10_typical 31 = .ok (.getfield 33, 3) := by decide +kernel
theorem dX10_typical_34 : decode cX10_typical 34 = .ok (.iload_n 1, 1) := by decide +kernel
theorem dX10_typical_35 : decode cX10_typical 35 = .ok (.invokevirtual 242, 3) := by decide +kernel
theorem dX10_typical_38 : decode cX10_typical 38 = .ok (.invokevirtual 290, 3) := by decide +kernel
theorem dX10_typical_41 : decode cX10_typical 41 = .ok (.ireturn, 1) := by decide +kernel
set_option maxRecDepth 100000 in
theorem ggX10_likeness_X10_requireDivision : GoodIn wsX10_likeness wsX10_requireDivision := goodIn_ca (goodIn_r _ [6, 7, 8, 9, 10, 11, 12, 13, 5, 14, 15, 16, 17, 1, 18, 19, 20, 21, 22, 23, 24, 25, 26, 27, 28, 29, 30, 31, 32, 33, 34, 35, 36, 37, 38, 39, 40, 41, 42, 43, 44, 45, 46, 47, 48, 49, 50, 51, 52, 53, 54, 55, 56, 57, 58, 59, 60, 61, 62, 63, 64, 65, 66, 67, 68, 69, 70, 71, 72, 73, 74, 75, 76, 77, 78, 79, 80, 81, 82, 83, 84, 85, 86, 87, 88, 89, 90, 91, 92, 93, 94, 95, 96, 97, 98, 99, 100, 101, 102, 103, 104, 105, 106, 107, 108, 109, 110, 111, 112, 113, 114, 115, 116, 117, 118, 119, 120, 121, 122, 123, 124, 125, 126, 127, 128, 129, 130, 131, 132, 133, 134, 135, 136, 137, 138, 139, 140, 141, 142, 143, 144, 145, 146, 147, 148, 149, 150, 151, 152, 153, 154, 155, 156, 157, 158, 159, 160, 161, 162, 163, 164, 165, 166, 167, 168, 169, 170, 171, 172, 173, 184, 185, 186, 187, 188, 189, 190, 191, 192, 193, 194, 195, 196, 197, 198, 199, 200, 201, 202, 203, 204, 205, 206, 207, 208, 209, 210, 211, 212, 213, 214, 215, 216, 217, 218, 219, 220, 221, 222, 223, 224, 225, 226, 227, 228, 229, 230] rfl (by decide +kernel)) (goodIn_sub (fun _ h => List.mem_cons_of_mem _ (List.mem_append_left _ (List.mem_append_right _ h))) (by decide +kernel))
set_option maxRecDepth 100000 in
theorem gX10_likeness_X10_requireDivision : GoodIn wsX10_likeness (wsV RX10 230 RX10 yX10_requireDivision wsX10_requireDivision) := goodIn_app (goodIn_of _ (by decide +kernel)) ggX10_likeness_X10_requireDivision
set_option maxRecDepth 100000 in
theorem ggX10_likeness_X10_requireChapter : GoodIn wsX10_likeness wsX10_requireChapter := goodIn_ca (goodIn_r _ [177, 178, 179, 9, 10, 184, 185, 186, 187, 188, 189, 190, 191, 192, 193, 194, 195, 196, 197, 198, 199, 200, 201, 202, 203, 204, 205, 206] rfl (by decide +kernel)) (goodIn_sub (fun _ h => List.mem_cons_of_mem _ (List.mem_append_right _ h)) (by decide +kernel))
set_option maxRecDepth 100000 in
theorem gX10_likeness_X10_requireChapter : GoodIn wsX10_likeness (wsV RX10 236 RX10 yX10_requireChapter wsX10_requireChapter) := goodIn_app (goodIn_of _ (by decide +kernel)) ggX10_likeness_X10_requireChapter
set_option maxRecDepth 100000 in
theorem ggX10_likeness_X8_chapterLikeness : GoodIn wsX10_likeness wsX8_chapterLikeness := goodIn_r _ [183, 164, 71, 5, 72, 73, 51, 48, 52, 74, 47, 49, 229, 230] rfl (by decide +kernel)
set_option maxRecDepth 100000 in
theorem gX10_likeness_X8_chapterLikeness : GoodIn wsX10_likeness (wsV RX10 294 RX8 yX8_chapterLikeness wsX8_chapterLikeness) := goodIn_app (goodIn_of _ (by decide +kernel)) ggX10_likeness_X8_chapterLikeness
theorem dX10_likeness_0 : decode cX10_likeness 0 = .ok (.aload_n 0, 1) := by decide +kernel
theorem dX10_likeness_1 : decode cX10_likeness 1 = .ok (.invokevirtual 230, 3) := by decide +kernel
theorem dX10_likeness_4 : decode cX10_likeness 4 = .ok (.aload_n 0, 1) := by decide +kernel
theorem dX10_likeness_5 : decode cX10_likeness 5 = .ok (.iload_n 1, 1) := by decide +kernel
theorem dX10_likeness_6 : decode cX10_likeness 6 = .ok (.invokevirtual 236, 3) := by decide +kernel
theorem dX10_likeness_9 : decode cX10_likeness 9 = .ok (.aload_n 0, 1) := by decide +kernel
theorem dX10_likeness_10 : decode cX10_likeness 10 = .ok (.iload_n 2, 1) := by decide +kernel
theorem dX10_likeness_11 : decode cX10_likeness 11 = .ok (.invokevirtual 236, 3) := by decide +kernel
theorem dX10_likeness_14 : decode cX10_likeness 14 = .ok (.aload_n 0, 1) := by decide +kernel
theorem dX10_likeness_15 : decode cX10_likeness 15 = .ok (.getfield 47, 3) := by decide +kernel
theorem dX10_likeness_18 : decode cX10_likeness 18 = .ok (.iload_n 1, 1) := by decide +kernel
theorem dX10_likeness_19 : decode cX10_likeness 19 = .ok (.iload_n 2, 1) := by decide +kernel
theorem dX10_likeness_20 : decode cX10_likeness 20 = .ok (.invokevirtual 294, 3) := by decide +kernel
theorem dX10_likeness_23 : decode cX10_likeness 23 = .ok (.ireturn, 1) := by decide +kernel
set_option maxRecDepth 100000 in
theorem ggX10_mark_X10_requireDivision : GoodIn wsX10_mark wsX10_requireDivision := goodIn_ca (goodIn_r _ [6, 7, 8, 9, 10, 11, 12, 13, 5, 14, 15, 16, 17, 1, 18, 19, 20, 21, 22, 23, 24, 25, 26, 27, 28, 29, 30, 31, 32, 33, 34, 35, 36, 37, 38, 39, 40, 41, 42, 43, 44, 45, 46, 47, 48, 49, 50, 51, 52, 53, 54, 55, 56, 57, 58, 59, 60, 61, 62, 63, 64, 65, 66, 67, 68, 69, 70, 71, 72, 73, 74, 75, 76, 77, 78, 79, 80, 81, 82, 83, 84, 85, 86, 87, 88, 89, 90, 91, 92, 93, 94, 95, 96, 97, 98, 99, 100, 101, 102, 103, 104, 105, 106, 107, 108, 109, 110, 111, 112, 113, 114, 115, 116, 117, 118, 119, 120, 121, 122, 123, 124, 125, 126, 127, 128, 129, 130, 131, 132, 133, 134, 135, 136, 137, 138, 139, 140, 141, 142, 143, 144, 145, 146, 147, 148, 149, 150, 151, 152, 153, 154, 155, 156, 157, 158, 159, 160, 161, 162, 163, 164, 165, 166, 167, 168, 169, 170, 171, 172, 173, 189, 190, 191, 192, 193, 194, 195, 196, 197, 198, 199, 200, 201, 202, 203, 204, 205, 206, 207, 208, 209, 210, 211, 212, 213, 214, 215, 216, 217, 218, 219, 220, 221, 222, 223, 224, 225, 226, 227, 228, 229, 230, 231, 232, 233, 234, 235] rfl (by decide +kernel)) (goodIn_sub (fun _ h => List.mem_cons_of_mem _ (List.mem_append_left _ (List.mem_append_right _ h))) (by decide +kernel))
set_option maxRecDepth 100000 in
theorem gX10_mark_X10_requireDivision : GoodIn wsX10_mark (wsV RX10 230 RX10 yX10_requireDivision wsX10_requireDivision) := goodIn_app (goodIn_of _ (by decide +kernel)) ggX10_mark_X10_requireDivision
set_option maxRecDepth 100000 in
theorem ggX10_mark_X10_requireChapter : GoodIn wsX10_mark wsX10_requireChapter := goodIn_ca (goodIn_r _ [177, 178, 179, 9, 10, 189, 190, 191, 192, 193, 194, 195, 196, 197, 198, 199, 200, 201, 202, 203, 204, 205, 206, 207, 208, 209, 210, 211] rfl (by decide +kernel)) (goodIn_sub (fun _ h => List.mem_cons_of_mem _ (List.mem_append_right _ h)) (by decide +kernel))
set_option maxRecDepth 100000 in
theorem gX10_mark_X10_requireChapter : GoodIn wsX10_mark (wsV RX10 236 RX10 yX10_requireChapter wsX10_requireChapter) := goodIn_app (goodIn_of _ (by decide +kernel)) ggX10_mark_X10_requireChapter
set_option maxRecDepth 100000 in
theorem ggX10_mark_X10_requireWord : GoodIn wsX10_mark wsX10_requireWord := goodIn_ca (goodIn_r _ [183, 178, 179, 16, 18, 184, 189, 190, 191, 192, 193, 194, 195, 196, 212, 213, 214, 215, 216, 217, 218, 219, 220, 221, 222, 223] rfl (by decide +kernel)) (goodIn_sub (fun _ h => List.mem_cons_of_mem _ (List.mem_append_right _ h)) (by decide +kernel))
set_option maxRecDepth 100000 in
theorem gX10_mark_X10_requireWord : GoodIn wsX10_mark (wsV RX10 190 RX10 yX10_requireWord wsX10_requireWord) := goodIn_app (goodIn_of _ (by decide +kernel)) ggX10_mark_X10_requireWord
set_option maxRecDepth 100000 in
theorem ggX10_mark_X8_markOf : GoodIn wsX10_mark wsX8_markOf := goodIn_r _ [188, 165, 164, 234, 235] rfl (by decide +kernel)
set_option maxRecDepth 100000 in
theorem gX10_mark_X8_markOf : GoodIn wsX10_mark (wsV RX10 297 RX8 yX8_markOf wsX8_markOf) := goodIn_app (goodIn_of _ (by decide +kernel)) ggX10_mark_X8_markOf
theorem dX10_mark_0 : decode cX10_mark 0 = .ok (.aload_n 0, 1) := by decide +kernel
theorem dX10_mark_1 : decode cX10_mark 1 = .ok (.invokevirtual 230, 3) := by decide +kernel
theorem dX10_mark_4 : decode cX10_mark 4 = .ok (.aload_n 0, 1) := by decide +kernel
theorem dX10_mark_5 : decode cX10_mark 5 = .ok (.iload_n 1, 1) := by decide +kernel
theorem dX10_mark_6 : decode cX10_mark 6 = .ok (.invokevirtual 236, 3) := by decide +kernel
theorem dX10_mark_9 : decode cX10_mark 9 = .ok (.aload_n 0, 1) := by decide +kernel
theorem dX10_mark_10 : decode cX10_mark 10 = .ok (.iload_n 2, 1) := by decide +kernel
theorem dX10_mark_11 : decode cX10_mark 11 = .ok (.invokevirtual 190, 3) := by decide +kernel
theorem dX10_mark_14 : decode cX10_mark 14 = .ok (.aload_n 0, 1) := by decide +kernel
theorem dX10_mark_15 : decode cX10_mark 15 = .ok (.getfield 47, 3) := by decide +kernel
theorem dX10_mark_18 : decode cX10_mark 18 = .ok (.iload_n 1, 1) := by decide +kernel
theorem dX10_mark_19 : decode cX10_mark 19 = .ok (.iload_n 2, 1) := by decide +kernel
theorem dX10_mark_20 : decode cX10_mark 20 = .ok (.invokevirtual 297, 3) := by decide +kernel
theorem dX10_mark_23 : decode cX10_mark 23 = .ok (.ireturn, 1) := by decide +kernel
set_option maxRecDepth 100000 in
theorem ggX10_title_X10_requireDivision : GoodIn wsX10_title wsX10_requireDivision := goodIn_ca (goodIn_r _ [8, 9, 10, 11, 12, 13, 14, 15, 7, 16, 17, 18, 19, 3, 20, 21, 22, 23, 24, 25, 26, 27, 28, 29, 30, 31, 32, 33, 34, 35, 36, 37, 38, 39, 40, 41, 42, 43, 44, 45, 46, 47, 48, 49, 50, 51, 52, 53, 54, 55, 56, 57, 58, 59, 60, 61, 62, 63, 64, 65, 66, 67, 68, 69, 70, 71, 72, 73, 74, 75, 76, 77, 78, 79, 80, 81, 82, 83, 84, 85, 86, 87, 88, 89, 90, 91, 92, 93, 94, 95, 96, 97, 98, 99, 100, 101, 102, 103, 104, 105, 106, 107, 108, 109, 110, 111, 112, 113, 114, 115, 116, 117, 118, 119, 120, 121, 122, 123, 124, 125, 126, 127, 128, 129, 130, 131, 132, 133, 134, 135, 136, 137, 138, 139, 140, 141, 142, 143, 144, 145, 146, 147, 148, 149, 150, 151, 152, 153, 154, 155, 156, 157, 158, 159, 160, 161, 162, 163, 164, 165, 166, 167, 168, 169, 170, 171, 172, 173, 174, 175, 200, 201, 202, 203, 204, 205, 206, 207, 208, 209, 210, 211, 212, 213, 214, 215, 216, 217, 218, 219, 220, 221, 222, 223, 224, 225, 226, 227, 228, 229, 230, 231, 232, 233, 234, 235, 236, 237, 238, 239, 240, 241, 242, 243, 244, 245, 246] rfl (by decide +kernel)) (goodIn_sub (fun _ h => List.mem_cons_of_mem _ (List.mem_append_right _ h)) (by decide +kernel))
set_option maxRecDepth 100000 in
theorem gX10_title_X10_requireDivision : GoodIn wsX10_title (wsV RX10 230 RX10 yX10_requireDivision wsX10_requireDivision) := goodIn_app (goodIn_of _ (by decide +kernel)) ggX10_title_X10_requireDivision
set_option maxRecDepth 100000 in
theorem ggX10_title_X10_requireChapter : GoodIn wsX10_title wsX10_requireChapter := goodIn_ca (goodIn_r _ [179, 1, 2, 11, 12, 200, 201, 202, 203, 204, 205, 206, 207, 208, 209, 210, 211, 212, 213, 214, 215, 216, 217, 218, 219, 220, 221, 222] rfl (by decide +kernel)) (goodIn_sub (fun _ h => List.mem_cons_of_mem _ (List.mem_append_left _ (List.mem_append_right _ h))) (by decide +kernel))
set_option maxRecDepth 100000 in
theorem gX10_title_X10_requireChapter : GoodIn wsX10_title (wsV RX10 236 RX10 yX10_requireChapter wsX10_requireChapter) := goodIn_app (goodIn_of _ (by decide +kernel)) ggX10_title_X10_requireChapter
set_option maxRecDepth 100000 in
theorem ggX10_title_X8_titleWord : GoodIn wsX10_title wsX8_titleWord := goodIn_r _ [183, 184, 185, 186, 164, 187, 188, 189, 190, 191, 166, 192, 193, 194, 195, 196, 197, 198, 199, 167, 245, 246] rfl (by decide +kernel)
set_option maxRecDepth 100000 in
theorem gX10_title_X8_titleWord : GoodIn wsX10_title (wsV RX10 302 RX8 yX8_titleWord wsX8_titleWord) := goodIn_app (goodIn_of _ (by decide +kernel)) ggX10_title_X8_titleWord
theorem dX10_title_0 : decode cX10_title 0 = .ok (.aload_n 0, 1) := by decide +kernel
theorem dX10_title_1 : decode cX10_title 1 = .ok (.invokevirtual 230, 3) := by decide +kernel
theorem dX10_title_4 : decode cX10_title 4 = .ok (.aload_n 0, 1) := by decide +kernel
theorem dX10_title_5 : decode cX10_title 5 = .ok (.iload_n 1, 1) := by decide +kernel
theorem dX10_title_6 : decode cX10_title 6 = .ok (.invokevirtual 236, 3) := by decide +kernel
theorem dX10_title_9 : decode cX10_title 9 = .ok (.iload_n 2, 1) := by decide +kernel
theorem dX10_title_10 : decode cX10_title 10 = .ok (.ifCond .lt 8, 3) := by decide +kernel
theorem dX10_title_13 : decode cX10_title 13 = .ok (.iload_n 2, 1) := by decide +kernel
theorem dX10_title_14 : decode cX10_title 14 = .ok (.iconst 3, 1) := by decide +kernel
theorem dX10_title_15 : decode cX10_title 15 = .ok (.if_icmp .lt 14, 3) := by decide +kernel
theorem dX10_title_18 : decode cX10_title 18 = .ok (.new 177, 3) := by decide +kernel
theorem dX10_title_21 : decode cX10_title 21 = .ok (.dup, 1) := by decide +kernel
theorem dX10_title_22 : decode cX10_title 22 = .ok (.ldc_w 300, 3) := by decide +kernel
theorem dX10_title_25 : decode cX10_title 25 = .ok (.invokespecial 181, 3) := by decide +kernel
theorem dX10_title_28 : decode cX10_title 28 = .ok (.athrow, 1) := by decide +kernel
theorem dX10_title_29 : decode cX10_title 29 = .ok (.aload_n 0, 1) := by decide +kernel
theorem dX10_title_30 : decode cX10_title 30 = .ok (.getfield 47, 3) := by decide +kernel
theorem dX10_title_33 : decode cX10_title 33 = .ok (.iload_n 1, 1) := by decide +kernel
theorem dX10_title_34 : decode cX10_title 34 = .ok (.iload_n 2, 1) := by decide +kernel
theorem dX10_title_35 : decode cX10_title 35 = .ok (.invokevirtual 302, 3) := by decide +kernel
theorem dX10_title_38 : decode cX10_title 38 = .ok (.ireturn, 1) := by decide +kernel
set_option maxRecDepth 100000 in
theorem ggX10_addSlot_X10_requireRange : GoodIn wsX10_addSlot wsX10_requireRange := goodIn_ca (goodIn_r _ [10, 11, 12] rfl (by decide +kernel)) (goodIn_sub (fun _ h => List.mem_cons_of_mem _ (List.mem_append_right _ h)) (by decide +kernel))
set_option maxRecDepth 100000 in
theorem gX10_addSlot_X10_requireRange : GoodIn wsX10_addSlot (wsV RX10 152 RX10 yX10_requireRange wsX10_requireRange) := goodIn_app (goodIn_of _ (by decide +kernel)) ggX10_addSlot_X10_requireRange
set_option maxRecDepth 100000 in
theorem ggX10_addSlot_X10_beginChange : GoodIn wsX10_addSlot wsX10_beginChange := goodIn_r _ [16, 17, 3, 18, 19, 20, 21, 22, 23, 24, 25, 26, 27, 28, 29, 30, 31, 32, 33, 34, 35, 36, 37, 38, 39, 40, 41, 42, 43, 44, 45, 46, 47, 48, 49, 50, 51, 52, 53, 54, 55, 56, 57, 58, 59, 60, 61, 62, 63, 64, 65, 66, 67, 68, 69, 70, 71, 72, 73, 74, 75, 84, 85, 86, 87, 88, 89, 90, 91, 100, 101, 102, 92, 93, 94, 95, 103, 104, 105, 106, 107, 108, 109, 110, 96, 97, 98, 99, 111, 112, 113, 114, 115, 116] rfl (by decide +kernel)
set_option maxRecDepth 100000 in
theorem gX10_addSlot_X10_beginChange : GoodIn wsX10_addSlot (wsV RX10 92 RX10 yX10_beginChange wsX10_beginChange) := goodIn_app (goodIn_of _ (by decide +kernel)) ggX10_addSlot_X10_beginChange
set_option maxRecDepth 100000 in
theorem ggX10_addSlot_X7_insert : GoodIn wsX10_addSlot wsX7_insert := goodIn_r _ [79, 59, 60, 62, 63, 80, 81, 82, 57, 83, 96, 97, 98, 99] rfl (by decide +kernel)
set_option maxRecDepth 100000 in
theorem gX10_addSlot_X7_insert : GoodIn wsX10_addSlot (wsV RX10 307 RX7 yX7_insert wsX7_insert) := goodIn_app (goodIn_of _ (by decide +kernel)) ggX10_addSlot_X7_insert
theorem dX10_addSlot_0 : decode cX10_addSlot 0 = .ok (.aload_n 0, 1) := by decide +kernel
theorem dX10_addSlot_1 : decode cX10_addSlot 1 = .ok (.iload_n 1, 1) := by decide +kernel
theorem dX10_addSlot_2 : decode cX10_addSlot 2 = .ok (.iconst 0, 1) := by decide +kernel
theorem dX10_addSlot_3 : decode cX10_addSlot 3 = .ok (.sipush 9999, 3) := by decide +kernel
theorem dX10_addSlot_6 : decode cX10_addSlot 6 = .ok (.invokevirtual 152, 3) := by decide +kernel
theorem dX10_addSlot_9 : decode cX10_addSlot 9 = .ok (.aload_n 0, 1) := by decide +kernel
theorem dX10_addSlot_10 : decode cX10_addSlot 10 = .ok (.iload_n 2, 1) := by decide +kernel
theorem dX10_addSlot_11 : decode cX10_addSlot 11 = .ok (.iconst 1, 1) := by decide +kernel
theorem dX10_addSlot_12 : decode cX10_addSlot 12 = .ok (.sipush 300, 3) := by decide +kernel
theorem dX10_addSlot_15 : decode cX10_addSlot 15 = .ok (.invokevirtual 152, 3) := by decide +kernel
theorem dX10_addSlot_18 : decode cX10_addSlot 18 = .ok (.aload_n 0, 1) := by decide +kernel
theorem dX10_addSlot_19 : decode cX10_addSlot 19 = .ok (.iload_n 3, 1) := by decide +kernel
theorem dX10_addSlot_20 : decode cX10_addSlot 20 = .ok (.iconst 0, 1) := by decide +kernel
theorem dX10_addSlot_21 : decode cX10_addSlot 21 = .ok (.sipush 999, 3) := by decide +kernel
theorem dX10_addSlot_24 : decode cX10_addSlot 24 = .ok (.invokevirtual 152, 3) := by decide +kernel
theorem dX10_addSlot_27 : decode cX10_addSlot 27 = .ok (.aload_n 0, 1) := by decide +kernel
theorem dX10_addSlot_28 : decode cX10_addSlot 28 = .ok (.getfield 12, 3) := by decide +kernel
theorem dX10_addSlot_31 : decode cX10_addSlot 31 = .ok (.getfield 117, 3) := by decide +kernel
theorem dX10_addSlot_34 : decode cX10_addSlot 34 = .ok (.getfield 121, 3) := by decide +kernel
theorem dX10_addSlot_37 : decode cX10_addSlot 37 = .ok (.iconst 5, 1) := by decide +kernel
theorem dX10_addSlot_38 : decode cX10_addSlot 38 = .ok (.if_icmp .lt 14, 3) := by decide +kernel
theorem dX10_addSlot_41 : decode cX10_addSlot 41 = .ok (.new 66, 3) := by decide +kernel
theorem dX10_addSlot_44 : decode cX10_addSlot 44 = .ok (.dup, 1) := by decide +kernel
theorem dX10_addSlot_45 : decode cX10_addSlot 45 = .ok (.ldc_w 305, 3) := by decide +kernel
theorem dX10_addSlot_48 : decode cX10_addSlot 48 = .ok (.invokespecial 70, 3) := by decide +kernel
theorem dX10_addSlot_51 : decode cX10_addSlot 51 = .ok (.athrow, 1) := by decide +kernel
theorem dX10_addSlot_52 : decode cX10_addSlot 52 = .ok (.aload_n 0, 1) := by decide +kernel
theorem dX10_addSlot_53 : decode cX10_addSlot 53 = .ok (.invokevirtual 92, 3) := by decide +kernel
theorem dX10_addSlot_56 : decode cX10_addSlot 56 = .ok (.aload_n 0, 1) := by decide +kernel
theorem dX10_addSlot_57 : decode cX10_addSlot 57 = .ok (.getfield 12, 3) := by decide +kernel
theorem dX10_addSlot_60 : decode cX10_addSlot 60 = .ok (.getfield 117, 3) := by decide +kernel
theorem dX10_addSlot_63 : decode cX10_addSlot 63 = .ok (.iload_n 1, 1) := by decide +kernel
theorem dX10_addSlot_64 : decode cX10_addSlot 64 = .ok (.iload_n 2, 1) := by decide +kernel
theorem dX10_addSlot_65 : decode cX10_addSlot 65 = .ok (.iload_n 3, 1) := by decide +kernel
theorem dX10_addSlot_66 : decode cX10_addSlot 66 = .ok (.invokevirtual 307, 3) := by decide +kernel
theorem dX10_addSlot_69 : decode cX10_addSlot 69 = .ok (.ireturn, 1) := by decide +kernel
set_option maxRecDepth 100000 in
theorem ggX10_removeSlot_X10_requireSlot : GoodIn wsX10_removeSlot wsX10_requireSlot := goodIn_ca (goodIn_r _ [8, 9, 10, 1, 2, 3, 82, 83, 84, 85, 86, 87, 88, 89, 90, 91, 92, 93, 94, 95, 96, 97] rfl (by decide +kernel)) (goodIn_sub (fun _ h => List.mem_cons_of_mem _ (List.mem_append_right _ h)) (by decide +kernel))
set_option maxRecDepth 100000 in
theorem gX10_removeSlot_X10_requireSlot : GoodIn wsX10_removeSlot (wsV RX10 310 RX10 yX10_requireSlot wsX10_requireSlot) := goodIn_app (goodIn_of _ (by decide +kernel)) ggX10_removeSlot_X10_requireSlot
set_option maxRecDepth 100000 in
theorem ggX10_removeSlot_X10_beginChange : GoodIn wsX10_removeSlot wsX10_beginChange := goodIn_r _ [14, 15, 1, 16, 17, 18, 19, 20, 21, 22, 23, 24, 25, 26, 27, 28, 29, 30, 31, 32, 33, 34, 35, 36, 37, 38, 39, 40, 41, 42, 43, 44, 45, 46, 47, 48, 49, 50, 51, 52, 53, 54, 55, 56, 57, 58, 59, 60, 61, 62, 63, 64, 65, 66, 67, 68, 69, 70, 71, 72, 73, 82, 83, 84, 85, 86, 87, 88, 89, 98, 99, 100, 90, 91, 92, 93, 101, 102, 103, 104, 105, 106, 107, 108, 94, 95, 96, 97, 109, 110, 111, 112, 113, 114] rfl (by decide +kernel)
set_option maxRecDepth 100000 in
theorem gX10_removeSlot_X10_beginChange : GoodIn wsX10_removeSlot (wsV RX10 92 RX10 yX10_beginChange wsX10_beginChange) := goodIn_app (goodIn_of _ (by decide +kernel)) ggX10_removeSlot_X10_beginChange
set_option maxRecDepth 100000 in
theorem ggX10_removeSlot_X7_drop : GoodIn wsX10_removeSlot wsX7_drop := goodIn_r _ [77, 57, 78, 79, 80, 55, 81, 58, 60, 61, 94, 95, 96, 97] rfl (by decide +kernel)
set_option maxRecDepth 100000 in
theorem gX10_removeSlot_X7_drop : GoodIn wsX10_removeSlot (wsV RX10 313 RX7 yX7_drop wsX7_drop) := goodIn_app (goodIn_of _ (by decide +kernel)) ggX10_removeSlot_X7_drop
theorem dX10_removeSlot_0 : decode cX10_removeSlot 0 = .ok (.aload_n 0, 1) := by decide +kernel
theorem dX10_removeSlot_1 : decode cX10_removeSlot 1 = .ok (.iload_n 1, 1) := by decide +kernel
theorem dX10_removeSlot_2 : decode cX10_removeSlot 2 = .ok (.invokevirtual 310, 3) := by decide +kernel
theorem dX10_removeSlot_5 : decode cX10_removeSlot 5 = .ok (.aload_n 0, 1) := by decide +kernel
theorem dX10_removeSlot_6 : decode cX10_removeSlot 6 = .ok (.invokevirtual 92, 3) := by decide +kernel
theorem dX10_removeSlot_9 : decode cX10_removeSlot 9 = .ok (.aload_n 0, 1) := by decide +kernel
theorem dX10_removeSlot_10 : decode cX10_removeSlot 10 = .ok (.getfield 12, 3) := by decide +kernel
theorem dX10_removeSlot_13 : decode cX10_removeSlot 13 = .ok (.getfield 117, 3) := by decide +kernel
theorem dX10_removeSlot_16 : decode cX10_removeSlot 16 = .ok (.iload_n 1, 1) := by decide +kernel
theorem dX10_removeSlot_17 : decode cX10_removeSlot 17 = .ok (.invokevirtual 313, 3) := by decide +kernel
theorem dX10_removeSlot_20 : decode cX10_removeSlot 20 = .ok (.aload_n 0, 1) := by decide +kernel
theorem dX10_removeSlot_21 : decode cX10_removeSlot 21 = .ok (.getfield 12, 3) := by decide +kernel
theorem dX10_removeSlot_24 : decode cX10_removeSlot 24 = .ok (.getfield 117, 3) := by decide +kernel
theorem dX10_removeSlot_27 : decode cX10_removeSlot 27 = .ok (.getfield 121, 3) := by decide +kernel
theorem dX10_removeSlot_30 : decode cX10_removeSlot 30 = .ok (.ireturn, 1) := by decide +kernel
set_option maxRecDepth 100000 in
theorem ggX10_moveSlot_X10_requireSlot : GoodIn wsX10_moveSlot wsX10_requireSlot := goodIn_ca (goodIn_r _ [9, 10, 11, 1, 2, 12, 94, 95, 96, 97, 98, 99, 100, 101, 102, 103, 104, 105, 106, 107, 108, 109] rfl (by decide +kernel)) (goodIn_sub (fun _ h => List.mem_cons_of_mem _ (List.mem_append_left _ (List.mem_append_right _ h))) (by decide +kernel))
set_option maxRecDepth 100000 in
theorem gX10_moveSlot_X10_requireSlot : GoodIn wsX10_moveSlot (wsV RX10 310 RX10 yX10_requireSlot wsX10_requireSlot) := goodIn_app (goodIn_of _ (by decide +kernel)) ggX10_moveSlot_X10_requireSlot
set_option maxRecDepth 100000 in
theorem ggX10_moveSlot_X10_requireRange : GoodIn wsX10_moveSlot wsX10_requireRange := goodIn_ca (goodIn_r _ [16, 17, 18] rfl (by decide +kernel)) (goodIn_sub (fun _ h => List.mem_cons_of_mem _ (List.mem_append_right _ h)) (by decide +kernel))
set_option maxRecDepth 100000 in
theorem gX10_moveSlot_X10_requireRange : GoodIn wsX10_moveSlot (wsV RX10 152 RX10 yX10_requireRange wsX10_requireRange) := goodIn_app (goodIn_of _ (by decide +kernel)) ggX10_moveSlot_X10_requireRange
set_option maxRecDepth 100000 in
theorem ggX10_moveSlot_X10_beginChange : GoodIn wsX10_moveSlot wsX10_beginChange := goodIn_r _ [22, 23, 1, 24, 25, 26, 27, 28, 29, 30, 31, 32, 33, 34, 35, 36, 37, 38, 39, 40, 41, 42, 43, 44, 45, 46, 47, 48, 49, 50, 51, 52, 53, 54, 55, 56, 57, 58, 59, 60, 61, 62, 63, 64, 65, 66, 67, 68, 69, 70, 71, 72, 73, 74, 75, 76, 77, 78, 79, 80, 81, 94, 95, 96, 97, 98, 99, 100, 101, 110, 111, 112, 102, 103, 104, 105, 113, 114, 115, 116, 117, 118, 119, 120, 106, 107, 108, 109, 121, 122, 123, 124, 125, 126] rfl (by decide +kernel)
set_option maxRecDepth 100000 in
theorem gX10_moveSlot_X10_beginChange : GoodIn wsX10_moveSlot (wsV RX10 92 RX10 yX10_beginChange wsX10_beginChange) := goodIn_app (goodIn_of _ (by decide +kernel)) ggX10_moveSlot_X10_beginChange
set_option maxRecDepth 100000 in
theorem ggX10_moveSlot_X7_drop : GoodIn wsX10_moveSlot wsX7_drop := goodIn_r _ [85, 65, 86, 87, 88, 63, 89, 66, 68, 69, 106, 107, 108, 109] rfl (by decide +kernel)
set_option maxRecDepth 100000 in
theorem gX10_moveSlot_X7_drop : GoodIn wsX10_moveSlot (wsV RX10 313 RX7 yX7_drop wsX7_drop) := goodIn_app (goodIn_of _ (by decide +kernel)) ggX10_moveSlot_X7_drop
set_option maxRecDepth 100000 in
theorem ggX10_moveSlot_X7_insert : GoodIn wsX10_moveSlot wsX7_insert := goodIn_r _ [93, 65, 66, 68, 69, 86, 87, 88, 63, 89, 106, 107, 108, 109] rfl (by decide +kernel)
set_option maxRecDepth 100000 in
theorem gX10_moveSlot_X7_insert : GoodIn wsX10_moveSlot (wsV RX10 307 RX7 yX7_insert wsX7_insert) := goodIn_app (goodIn_of _ (by decide +kernel)) ggX10_moveSlot_X7_insert
theorem dX10_moveSlot_0 : decode cX10_moveSlot 0 = .ok (.aload_n 0, 1) := by decide +kernel
theorem dX10_moveSlot_1 : decode cX10_moveSlot 1 = .ok (.iload_n 1, 1) := by decide +kernel
theorem dX10_moveSlot_2 : decode cX10_moveSlot 2 = .ok (.invokevirtual 310, 3) := by decide +kernel
theorem dX10_moveSlot_5 : decode cX10_moveSlot 5 = .ok (.aload_n 0, 1) := by decide +kernel
theorem dX10_moveSlot_6 : decode cX10_moveSlot 6 = .ok (.iload_n 2, 1) := by decide +kernel
theorem dX10_moveSlot_7 : decode cX10_moveSlot 7 = .ok (.iconst 0, 1) := by decide +kernel
theorem dX10_moveSlot_8 : decode cX10_moveSlot 8 = .ok (.sipush 9999, 3) := by decide +kernel
theorem dX10_moveSlot_11 : decode cX10_moveSlot 11 = .ok (.invokevirtual 152, 3) := by decide +kernel
theorem dX10_moveSlot_14 : decode cX10_moveSlot 14 = .ok (.aload_n 0, 1) := by decide +kernel
theorem dX10_moveSlot_15 : decode cX10_moveSlot 15 = .ok (.getfield 12, 3) := by decide +kernel
theorem dX10_moveSlot_18 : decode cX10_moveSlot 18 = .ok (.getfield 117, 3) := by decide +kernel
theorem dX10_moveSlot_21 : decode cX10_moveSlot 21 = .ok (.getfield 316, 3) := by decide +kernel
theorem dX10_moveSlot_24 : decode cX10_moveSlot 24 = .ok (.iload_n 1, 1) := by decide +kernel
theorem dX10_moveSlot_25 : decode cX10_moveSlot 25 = .ok (.iaload, 1) := by decide +kernel
theorem dX10_moveSlot_26 : decode cX10_moveSlot 26 = .ok (.istore_n 3, 1) := by decide +kernel
theorem dX10_moveSlot_27 : decode cX10_moveSlot 27 = .ok (.aload_n 0, 1) := by decide +kernel
theorem dX10_moveSlot_28 : decode cX10_moveSlot 28 = .ok (.getfield 12, 3) := by decide +kernel
theorem dX10_moveSlot_31 : decode cX10_moveSlot 31 = .ok (.getfield 117, 3) := by decide +kernel
theorem dX10_moveSlot_34 : decode cX10_moveSlot 34 = .ok (.getfield 319, 3) := by decide +kernel
theorem dX10_moveSlot_37 : decode cX10_moveSlot 37 = .ok (.iload_n 1, 1) := by decide +kernel
theorem dX10_moveSlot_38 : decode cX10_moveSlot 38 = .ok (.iaload, 1) := by decide +kernel
theorem dX10_moveSlot_39 : decode cX10_moveSlot 39 = .ok (.istore 4, 2) := by decide +kernel
theorem dX10_moveSlot_41 : decode cX10_moveSlot 41 = .ok (.aload_n 0, 1) := by decide +kernel
theorem dX10_moveSlot_42 : decode cX10_moveSlot 42 = .ok (.invokevirtual 92, 3) := by decide +kernel
theorem dX10_moveSlot_45 : decode cX10_moveSlot 45 = .ok (.aload_n 0, 1) := by decide +kernel
theorem dX10_moveSlot_46 : decode cX10_moveSlot 46 = .ok (.getfield 12, 3) := by decide +kernel
theorem dX10_moveSlot_49 : decode cX10_moveSlot 49 = .ok (.getfield 117, 3) := by decide +kernel
theorem dX10_moveSlot_52 : decode cX10_moveSlot 52 = .ok (.iload_n 1, 1) := by decide +kernel
theorem dX10_moveSlot_53 : decode cX10_moveSlot 53 = .ok (.invokevirtual 313, 3) := by decide +kernel
theorem dX10_moveSlot_56 : decode cX10_moveSlot 56 = .ok (.aload_n 0, 1) := by decide +kernel
theorem dX10_moveSlot_57 : decode cX10_moveSlot 57 = .ok (.getfield 12, 3) := by decide +kernel
theorem dX10_moveSlot_60 : decode cX10_moveSlot 60 = .ok (.getfield 117, 3) := by decide +kernel
theorem dX10_moveSlot_63 : decode cX10_moveSlot 63 = .ok (.iload_n 2, 1) := by decide +kernel
theorem dX10_moveSlot_64 : decode cX10_moveSlot 64 = .ok (.iload_n 3, 1) := by decide +kernel
theorem dX10_moveSlot_65 : decode cX10_moveSlot 65 = .ok (.iload 4, 2) := by decide +kernel
theorem dX10_moveSlot_67 : decode cX10_moveSlot 67 = .ok (.invokevirtual 307, 3) := by decide +kernel
theorem dX10_moveSlot_70 : decode cX10_moveSlot 70 = .ok (.ireturn, 1) := by decide +kernel
set_option maxRecDepth 100000 in
theorem ggX10_slot_X10_requireSlot : GoodIn wsX10_slot wsX10_requireSlot := goodIn_ca (goodIn_r _ [12, 13, 14, 3, 4, 15, 16, 17, 18, 19, 20, 21, 22, 23, 24, 25, 26, 27, 28, 29, 30, 31] rfl (by decide +kernel)) (goodIn_sub (fun _ h => List.mem_cons_of_mem _ (List.mem_append_right _ h)) (by decide +kernel))
set_option maxRecDepth 100000 in
theorem gX10_slot_X10_requireSlot : GoodIn wsX10_slot (wsV RX10 310 RX10 yX10_requireSlot wsX10_requireSlot) := goodIn_app (goodIn_of _ (by decide +kernel)) ggX10_slot_X10_requireSlot
theorem dX10_slot_0 : decode cX10_slot 0 = .ok (.aload_n 0, 1) := by decide +kernel
theorem dX10_slot_1 : decode cX10_slot 1 = .ok (.iload_n 1, 1) := by decide +kernel
theorem dX10_slot_2 : decode cX10_slot 2 = .ok (.invokevirtual 310, 3) := by decide +kernel
theorem dX10_slot_5 : decode cX10_slot 5 = .ok (.iload_n 2, 1) := by decide +kernel
theorem dX10_slot_6 : decode cX10_slot 6 = .ok (.tableswitch 65 0 2 #[26, 39, 52], 26) := by decide +kernel
theorem dX10_slot_32 : decode cX10_slot 32 = .ok (.aload_n 0, 1) := by decide +kernel
theorem dX10_slot_33 : decode cX10_slot 33 = .ok (.getfield 12, 3) := by decide +kernel
theorem dX10_slot_36 : decode cX10_slot 36 = .ok (.getfield 117, 3) := by decide +kernel
theorem dX10_slot_39 : decode cX10_slot 39 = .ok (.getfield 322, 3) := by decide +kernel
theorem dX10_slot_42 : decode cX10_slot 42 = .ok (.iload_n 1, 1) := by decide +kernel
theorem dX10_slot_43 : decode cX10_slot 43 = .ok (.iaload, 1) := by decide +kernel
theorem dX10_slot_44 : decode cX10_slot 44 = .ok (.ireturn, 1) := by decide +kernel
theorem dX10_slot_45 : decode cX10_slot 45 = .ok (.aload_n 0, 1) := by decide +kernel
theorem dX10_slot_46 : decode cX10_slot 46 = .ok (.getfield 12, 3) := by decide +kernel
theorem dX10_slot_49 : decode cX10_slot 49 = .ok (.getfield 117, 3) := by decide +kernel
theorem dX10_slot_52 : decode cX10_slot 52 = .ok (.getfield 316, 3) := by decide +kernel
theorem dX10_slot_55 : decode cX10_slot 55 = .ok (.iload_n 1, 1) := by decide +kernel
theorem dX10_slot_56 : decode cX10_slot 56 = .ok (.iaload, 1) := by decide +kernel
theorem dX10_slot_57 : decode cX10_slot 57 = .ok (.ireturn, 1) := by decide +kernel
theorem dX10_slot_58 : decode cX10_slot 58 = .ok (.aload_n 0, 1) := by decide +kernel
theorem dX10_slot_59 : decode cX10_slot 59 = .ok (.getfield 12, 3) := by decide +kernel
theorem dX10_slot_62 : decode cX10_slot 62 = .ok (.getfield 117, 3) := by decide +kernel
theorem dX10_slot_65 : decode cX10_slot 65 = .ok (.getfield 319, 3) := by decide +kernel
theorem dX10_slot_68 : decode cX10_slot 68 = .ok (.iload_n 1, 1) := by decide +kernel
theorem dX10_slot_69 : decode cX10_slot 69 = .ok (.iaload, 1) := by decide +kernel
theorem dX10_slot_70 : decode cX10_slot 70 = .ok (.ireturn, 1) := by decide +kernel
theorem dX10_slot_71 : decode cX10_slot 71 = .ok (.new 81, 3) := by decide +kernel
theorem dX10_slot_74 : decode cX10_slot 74 = .ok (.dup, 1) := by decide +kernel
theorem dX10_slot_75 : decode cX10_slot 75 = .ok (.ldc_w 325, 3) := by decide +kernel
theorem dX10_slot_78 : decode cX10_slot 78 = .ok (.invokespecial 85, 3) := by decide +kernel
theorem dX10_slot_81 : decode cX10_slot 81 = .ok (.athrow, 1) := by decide +kernel
set_option maxRecDepth 100000 in
theorem ggX10_placeOf_X10_requireSlot : GoodIn wsX10_placeOf wsX10_requireSlot := goodIn_ca (goodIn_r _ [8, 9, 10, 11, 12, 13, 177, 178, 179, 180, 181, 182, 183, 184, 191, 192, 193, 194, 195, 196, 197, 198] rfl (by decide +kernel)) (goodIn_sub (fun _ h => List.mem_cons_of_mem _ (List.mem_append_right _ h)) (by decide +kernel))
set_option maxRecDepth 100000 in
theorem gX10_placeOf_X10_requireSlot : GoodIn wsX10_placeOf (wsV RX10 310 RX10 yX10_requireSlot wsX10_requireSlot) := goodIn_app (goodIn_of _ (by decide +kernel)) ggX10_placeOf_X10_requireSlot
set_option maxRecDepth 100000 in
theorem ggX10_placeOf_X10_refresh : GoodIn wsX10_placeOf wsX10_refresh := goodIn_r _ [17, 18, 19, 11, 1, 20, 21, 22, 23, 24, 25, 26, 27, 28, 29, 30, 31, 32, 33, 34, 35, 36, 37, 38, 39, 40, 41, 42, 43, 44, 45, 46, 47, 48, 49, 50, 51, 52, 53, 54, 55, 56, 57, 58, 59, 60, 61, 62, 63, 64, 65, 66, 67, 68, 69, 70, 71, 72, 73, 74, 7, 75, 76, 77, 78, 79, 80, 81, 82, 83, 84, 85, 86, 87, 88, 89, 90, 91, 92, 93, 94, 95, 96, 97, 98, 99, 100, 101, 102, 103, 104, 105, 106, 107, 108, 109, 110, 111, 112, 113, 114, 115, 116, 117, 118, 119, 120, 121, 122, 123, 124, 125, 126, 127, 128, 129, 130, 131, 132, 133, 134, 135, 136, 137, 138, 139, 140, 141, 142, 143, 144, 145, 146, 147, 148, 149, 150, 151, 152, 153, 154, 155, 156, 157, 158, 159, 160, 161, 162, 163, 164, 165, 166, 167, 168, 169, 170, 171, 172, 173, 174, 175, 176, 177, 178, 179, 180, 181, 182, 183, 184, 191, 192, 193, 194, 199, 200, 201, 202, 203, 204, 205, 206, 207, 208, 209, 210, 211, 212, 213, 214, 215, 216, 217, 218, 219, 220, 221, 185, 186, 187, 188, 189, 190, 195, 196, 197, 198, 222, 223] rfl (by decide +kernel)
set_option maxRecDepth 100000 in
theorem gX10_placeOf_X10_refresh : GoodIn wsX10_placeOf (wsV RX10 168 RX10 yX10_refresh wsX10_refresh) := goodIn_app (goodIn_of _ (by decide +kernel)) ggX10_placeOf_X10_refresh
theorem dX10_placeOf_0 : decode cX10_placeOf 0 = .ok (.aload_n 0, 1) := by decide +kernel
theorem dX10_placeOf_1 : decode cX10_placeOf 1 = .ok (.iload_n 1, 1) := by decide +kernel
theorem dX10_placeOf_2 : decode cX10_placeOf 2 = .ok (.invokevirtual 310, 3) := by decide +kernel
theorem dX10_placeOf_5 : decode cX10_placeOf 5 = .ok (.aload_n 0, 1) := by decide +kernel
theorem dX10_placeOf_6 : decode cX10_placeOf 6 = .ok (.invokevirtual 168, 3) := by decide +kernel
theorem dX10_placeOf_9 : decode cX10_placeOf 9 = .ok (.aload_n 0, 1) := by decide +kernel
theorem dX10_placeOf_10 : decode cX10_placeOf 10 = .ok (.getfield 40, 3) := by decide +kernel
theorem dX10_placeOf_13 : decode cX10_placeOf 13 = .ok (.getfield 327, 3) := by decide +kernel
theorem dX10_placeOf_16 : decode cX10_placeOf 16 = .ok (.iconst (-1), 1) := by decide +kernel
theorem dX10_placeOf_17 : decode cX10_placeOf 17 = .ok (.if_icmp .ne 7, 3) := by decide +kernel
theorem dX10_placeOf_20 : decode cX10_placeOf 20 = .ok (.iconst (-1), 1) := by decide +kernel
theorem dX10_placeOf_21 : decode cX10_placeOf 21 = .ok (.goto 12, 3) := by decide +kernel
theorem dX10_placeOf_24 : decode cX10_placeOf 24 = .ok (.aload_n 0, 1) := by decide +kernel
theorem dX10_placeOf_25 : decode cX10_placeOf 25 = .ok (.getfield 40, 3) := by decide +kernel
theorem dX10_placeOf_28 : decode cX10_placeOf 28 = .ok (.getfield 330, 3) := by decide +kernel
theorem dX10_placeOf_31 : decode cX10_placeOf 31 = .ok (.iload_n 1, 1) := by decide +kernel
theorem dX10_placeOf_32 : decode cX10_placeOf 32 = .ok (.iaload, 1) := by decide +kernel
theorem dX10_placeOf_33 : decode cX10_placeOf 33 = .ok (.ireturn, 1) := by decide +kernel
set_option maxRecDepth 100000 in
theorem ggX10_placementCost_X10_refresh : GoodIn wsX10_placementCost wsX10_refresh := goodIn_r _ [7, 8, 9, 10, 1, 11, 12, 13, 14, 15, 16, 17, 18, 19, 20, 21, 22, 23, 24, 25, 26, 27, 28, 29, 30, 31, 32, 33, 34, 35, 36, 37, 38, 39, 40, 41, 42, 43, 44, 45, 46, 47, 48, 49, 50, 51, 52, 53, 54, 55, 56, 57, 58, 59, 60, 61, 62, 63, 64, 65, 6, 66, 67, 68, 69, 70, 71, 72, 73, 74, 75, 76, 77, 78, 79, 80, 81, 82, 83, 84, 85, 86, 87, 88, 89, 90, 91, 92, 93, 94, 95, 96, 97, 98, 99, 100, 101, 102, 103, 104, 105, 106, 107, 108, 109, 110, 111, 112, 113, 114, 115, 116, 117, 118, 119, 120, 121, 122, 123, 124, 125, 126, 127, 128, 129, 130, 131, 132, 133, 134, 135, 136, 137, 138, 139, 140, 141, 142, 143, 144, 145, 146, 147, 148, 149, 150, 151, 152, 153, 154, 155, 156, 157, 158, 159, 160, 161, 162, 163, 164, 165, 166, 167, 168, 169, 170, 171, 172, 173, 174, 175, 182, 183, 184, 185, 186, 187, 188, 189, 190, 191, 192, 193, 194, 195, 196, 197, 198, 199, 200, 201, 202, 203, 204, 205, 206, 207, 208, 176, 177, 178, 179, 180, 181, 209, 210, 211, 212, 213, 214] rfl (by decide +kernel)
set_option maxRecDepth 100000 in
theorem gX10_placementCost_X10_refresh : GoodIn wsX10_placementCost (wsV RX10 168 RX10 yX10_refresh wsX10_refresh) := goodIn_app (goodIn_of _ (by decide +kernel)) ggX10_placementCost_X10_refresh
theorem dX10_placementCost_0 : decode cX10_placementCost 0 = .ok (.aload_n 0, 1) := by decide +kernel
theorem dX10_placementCost_1 : decode cX10_placementCost 1 = .ok (.invokevirtual 168, 3) := by decide +kernel
theorem dX10_placementCost_4 : decode cX10_placementCost 4 = .ok (.aload_n 0, 1) := by decide +kernel
theorem dX10_placementCost_5 : decode cX10_placementCost 5 = .ok (.getfield 40, 3) := by decide +kernel
theorem dX10_placementCost_8 : decode cX10_placementCost 8 = .ok (.getfield 327, 3) := by decide +kernel
theorem dX10_placementCost_11 : decode cX10_placementCost 11 = .ok (.ireturn, 1) := by decide +kernel
set_option maxRecDepth 100000 in
theorem ggX10_choices_X10_requireSlot : GoodIn wsX10_choices wsX10_requireSlot := goodIn_ca (goodIn_r _ [7, 8, 9, 2, 10, 11, 179, 180, 181, 182, 183, 184, 185, 186, 187, 188, 189, 190, 191, 192, 193, 194] rfl (by decide +kernel)) (goodIn_sub (fun _ h => List.mem_cons_of_mem _ (List.mem_append_right _ h)) (by decide +kernel))
set_option maxRecDepth 100000 in
theorem gX10_choices_X10_requireSlot : GoodIn wsX10_choices (wsV RX10 310 RX10 yX10_requireSlot wsX10_requireSlot) := goodIn_app (goodIn_of _ (by decide +kernel)) ggX10_choices_X10_requireSlot
set_option maxRecDepth 100000 in
theorem ggX10_choices_X10_refresh : GoodIn wsX10_choices wsX10_refresh := goodIn_r _ [15, 16, 17, 2, 1, 18, 19, 20, 21, 22, 23, 24, 25, 26, 27, 28, 29, 30, 31, 32, 33, 34, 35, 36, 37, 38, 39, 40, 41, 42, 43, 44, 45, 46, 47, 48, 49, 50, 51, 52, 53, 54, 55, 56, 57, 58, 59, 60, 61, 62, 63, 64, 65, 66, 67, 68, 69, 70, 71, 72, 6, 73, 74, 75, 76, 77, 78, 79, 80, 81, 82, 83, 84, 85, 86, 87, 88, 89, 90, 91, 92, 93, 94, 95, 96, 97, 98, 99, 100, 101, 102, 103, 104, 105, 106, 107, 108, 109, 110, 111, 112, 113, 114, 115, 116, 117, 118, 119, 120, 121, 122, 123, 124, 125, 126, 127, 128, 129, 130, 131, 132, 133, 134, 135, 136, 137, 138, 139, 140, 141, 142, 143, 144, 145, 146, 147, 148, 149, 150, 151, 152, 153, 154, 155, 156, 157, 158, 159, 160, 161, 162, 163, 164, 165, 166, 167, 168, 169, 170, 171, 172, 173, 174, 179, 180, 181, 182, 183, 184, 185, 186, 187, 188, 189, 190, 195, 196, 197, 198, 199, 200, 201, 202, 203, 204, 205, 206, 207, 208, 209, 210, 211, 212, 213, 214, 215, 216, 217, 218, 219, 220, 221, 222, 223, 191, 192, 193, 194, 224, 225] rfl (by decide +kernel)
set_option maxRecDepth 100000 in
theorem gX10_choices_X10_refresh : GoodIn wsX10_choices (wsV RX10 168 RX10 yX10_refresh wsX10_refresh) := goodIn_app (goodIn_of _ (by decide +kernel)) ggX10_choices_X10_refresh
set_option maxRecDepth 100000 in
theorem ggX10_choices_X4_countChoices : GoodIn wsX10_choices wsX4_countChoices := goodIn_r _ [178, 108, 132, 133, 134, 105, 135, 107, 131, 111, 136, 137, 138, 139, 37, 140, 141, 40, 142, 143, 144, 145, 109, 146, 147, 148, 49, 149, 218, 219, 220, 221, 222, 223, 187, 188, 189, 190, 191, 192, 193, 194, 195, 196, 197, 198, 199, 200, 201, 202] rfl (by decide +kernel)
set_option maxRecDepth 100000 in
theorem gX10_choices_X4_countChoices : GoodIn wsX10_choices (wsV RX10 333 RX4 yX4_countChoices wsX4_countChoices) := goodIn_app (goodIn_of _ (by decide +kernel)) ggX10_choices_X4_countChoices
theorem dX10_choices_0 : decode cX10_choices 0 = .ok (.aload_n 0, 1) := by decide +kernel
theorem dX10_choices_1 : decode cX10_choices 1 = .ok (.iload_n 1, 1) := by decide +kernel
theorem dX10_choices_2 : decode cX10_choices 2 = .ok (.invokevirtual 310, 3) := by decide +kernel
theorem dX10_choices_5 : decode cX10_choices 5 = .ok (.aload_n 0, 1) := by decide +kernel
theorem dX10_choices_6 : decode cX10_choices 6 = .ok (.invokevirtual 168, 3) := by decide +kernel
theorem dX10_choices_9 : decode cX10_choices 9 = .ok (.aload_n 0, 1) := by decide +kernel
theorem dX10_choices_10 : decode cX10_choices 10 = .ok (.getfield 40, 3) := by decide +kernel
theorem dX10_choices_13 : decode cX10_choices 13 = .ok (.aload_n 0, 1) := by decide +kernel
theorem dX10_choices_14 : decode cX10_choices 14 = .ok (.getfield 12, 3) := by decide +kernel
theorem dX10_choices_17 : decode cX10_choices 17 = .ok (.iload_n 1, 1) := by decide +kernel
theorem dX10_choices_18 : decode cX10_choices 18 = .ok (.invokevirtual 333, 3) := by decide +kernel
theorem dX10_choices_21 : decode cX10_choices 21 = .ok (.ireturn, 1) := by decide +kernel
set_option maxRecDepth 100000 in
theorem ggX10_keep_X10_beginChange : GoodIn wsX10_keep wsX10_beginChange := goodIn_r _ [9, 10, 1, 11, 12, 13, 14, 15, 16, 17, 18, 19, 20, 21, 22, 23, 24, 25, 26, 27, 28, 29, 30, 31, 32, 33, 34, 35, 36, 37, 38, 39, 40, 41, 42, 43, 44, 45, 46, 47, 48, 49, 50, 51, 52, 53, 54, 55, 56, 57, 58, 59, 60, 61, 62, 63, 64, 65, 66, 67, 68, 79, 80, 81, 82, 83, 84, 85, 86, 97, 98, 99, 87, 88, 89, 90, 100, 101, 102, 103, 104, 105, 106, 107, 108, 109, 110, 111, 91, 92, 93, 94, 95, 96] rfl (by decide +kernel)
set_option maxRecDepth 100000 in
theorem gX10_keep_X10_beginChange : GoodIn wsX10_keep (wsV RX10 92 RX10 yX10_beginChange wsX10_beginChange) := goodIn_app (goodIn_of _ (by decide +kernel)) ggX10_keep_X10_beginChange
set_option maxRecDepth 100000 in
theorem ggX10_keep_X2_takeVersion : GoodIn wsX10_keep wsX2_takeVersion := goodIn_r _ [72, 62, 73, 63, 64, 65, 74, 67, 68, 75, 76, 77, 36, 78, 42, 40, 91, 92, 93, 94, 95, 96, 100, 101, 102, 103, 104, 105, 106, 107] rfl (by decide +kernel)
set_option maxRecDepth 100000 in
theorem gX10_keep_X2_takeVersion : GoodIn wsX10_keep (wsV RX10 340 RX2 yX2_takeVersion wsX2_takeVersion) := goodIn_app (goodIn_of _ (by decide +kernel)) ggX10_keep_X2_takeVersion
theorem dX10_keep_0 : decode cX10_keep 0 = .ok (.aload_n 0, 1) := by decide +kernel
theorem dX10_keep_1 : decode cX10_keep 1 = .ok (.invokevirtual 92, 3) := by decide +kernel
theorem dX10_keep_4 : decode cX10_keep 4 = .ok (.aload_n 0, 1) := by decide +kernel
theorem dX10_keep_5 : decode cX10_keep 5 = .ok (.getfield 12, 3) := by decide +kernel
theorem dX10_keep_8 : decode cX10_keep 8 = .ok (.getfield 336, 3) := by decide +kernel
theorem dX10_keep_11 : decode cX10_keep 11 = .ok (.aload_n 0, 1) := by decide +kernel
theorem dX10_keep_12 : decode cX10_keep 12 = .ok (.getfield 12, 3) := by decide +kernel
theorem dX10_keep_15 : decode cX10_keep 15 = .ok (.getfield 102, 3) := by decide +kernel
theorem dX10_keep_18 : decode cX10_keep 18 = .ok (.invokevirtual 340, 3) := by decide +kernel
theorem dX10_keep_21 : decode cX10_keep 21 = .ok (.aload_n 0, 1) := by decide +kernel
theorem dX10_keep_22 : decode cX10_keep 22 = .ok (.getfield 12, 3) := by decide +kernel
theorem dX10_keep_25 : decode cX10_keep 25 = .ok (.getfield 336, 3) := by decide +kernel
theorem dX10_keep_28 : decode cX10_keep 28 = .ok (.getfield 346, 3) := by decide +kernel
theorem dX10_keep_31 : decode cX10_keep 31 = .ok (.ireturn, 1) := by decide +kernel
set_option maxRecDepth 100000 in
theorem ggX10_carried_X10_requireRange : GoodIn wsX10_carried wsX10_requireRange := goodIn_ca (goodIn_r _ [12, 13, 14] rfl (by decide +kernel)) (goodIn_sub (fun _ h => List.mem_cons_of_mem _ (List.mem_append_right _ h)) (by decide +kernel))
set_option maxRecDepth 100000 in
theorem gX10_carried_X10_requireRange : GoodIn wsX10_carried (wsV RX10 152 RX10 yX10_requireRange wsX10_requireRange) := goodIn_app (goodIn_of _ (by decide +kernel)) ggX10_carried_X10_requireRange
set_option maxRecDepth 100000 in
theorem ggX10_carried_X2_carry : GoodIn wsX10_carried wsX2_carry := goodIn_r _ [19, 20, 21, 22, 23, 24, 25, 26, 27, 28, 29, 30, 31, 32, 33, 34, 35, 36, 37, 38, 39, 40, 41, 42, 43, 44, 45, 46, 47, 48, 61, 62, 63, 64, 65, 66, 67, 68, 69, 70, 71, 72, 73, 74] rfl (by decide +kernel)
set_option maxRecDepth 100000 in
theorem gX10_carried_X2_carry : GoodIn wsX10_carried (wsV RX10 354 RX2 yX2_carry wsX2_carry) := goodIn_app (goodIn_of _ (by decide +kernel)) ggX10_carried_X2_carry
theorem dX10_carried_0 : decode cX10_carried 0 = .ok (.aload_n 0, 1) := by decide +kernel
theorem dX10_carried_1 : decode cX10_carried 1 = .ok (.getfield 12, 3) := by decide +kernel
theorem dX10_carried_4 : decode cX10_carried 4 = .ok (.getfield 336, 3) := by decide +kernel
theorem dX10_carried_7 : decode cX10_carried 7 = .ok (.getfield 349, 3) := by decide +kernel
theorem dX10_carried_10 : decode cX10_carried 10 = .ok (.ifCond .ne 14, 3) := by decide +kernel
theorem dX10_carried_13 : decode cX10_carried 13 = .ok (.new 66, 3) := by decide +kernel
theorem dX10_carried_16 : decode cX10_carried 16 = .ok (.dup, 1) := by decide +kernel
theorem dX10_carried_17 : decode cX10_carried 17 = .ok (.ldc_w 352, 3) := by decide +kernel
theorem dX10_carried_20 : decode cX10_carried 20 = .ok (.invokespecial 70, 3) := by decide +kernel
theorem dX10_carried_23 : decode cX10_carried 23 = .ok (.athrow, 1) := by decide +kernel
theorem dX10_carried_24 : decode cX10_carried 24 = .ok (.aload_n 0, 1) := by decide +kernel
theorem dX10_carried_25 : decode cX10_carried 25 = .ok (.iload_n 1, 1) := by decide +kernel
theorem dX10_carried_26 : decode cX10_carried 26 = .ok (.iconst 0, 1) := by decide +kernel
theorem dX10_carried_27 : decode cX10_carried 27 = .ok (.aload_n 0, 1) := by decide +kernel
theorem dX10_carried_28 : decode cX10_carried 28 = .ok (.getfield 12, 3) := by decide +kernel
theorem dX10_carried_31 : decode cX10_carried 31 = .ok (.getfield 336, 3) := by decide +kernel
theorem dX10_carried_34 : decode cX10_carried 34 = .ok (.getfield 346, 3) := by decide +kernel
theorem dX10_carried_37 : decode cX10_carried 37 = .ok (.iconst 1, 1) := by decide +kernel
theorem dX10_carried_38 : decode cX10_carried 38 = .ok (.isub, 1) := by decide +kernel
theorem dX10_carried_39 : decode cX10_carried 39 = .ok (.invokevirtual 152, 3) := by decide +kernel
theorem dX10_carried_42 : decode cX10_carried 42 = .ok (.aload_n 0, 1) := by decide +kernel
theorem dX10_carried_43 : decode cX10_carried 43 = .ok (.getfield 12, 3) := by decide +kernel
theorem dX10_carried_46 : decode cX10_carried 46 = .ok (.getfield 336, 3) := by decide +kernel
theorem dX10_carried_49 : decode cX10_carried 49 = .ok (.iload_n 1, 1) := by decide +kernel
theorem dX10_carried_50 : decode cX10_carried 50 = .ok (.aload_n 0, 1) := by decide +kernel
theorem dX10_carried_51 : decode cX10_carried 51 = .ok (.getfield 12, 3) := by decide +kernel
theorem dX10_carried_54 : decode cX10_carried 54 = .ok (.getfield 102, 3) := by decide +kernel
theorem dX10_carried_57 : decode cX10_carried 57 = .ok (.invokevirtual 354, 3) := by decide +kernel
theorem dX10_carried_60 : decode cX10_carried 60 = .ok (.ireturn, 1) := by decide +kernel
set_option maxRecDepth 100000 in
theorem ggX10_writeChapters_X10_requireDivision : GoodIn wsX10_writeChapters wsX10_requireDivision := goodIn_ca (goodIn_r _ [12, 13, 14, 2, 3, 15, 16, 17, 11, 18, 19, 5, 4, 20, 21, 22, 23, 24, 25, 26, 27, 28, 29, 30, 31, 32, 33, 34, 35, 36, 37, 38, 39, 40, 41, 42, 43, 44, 45, 46, 47, 48, 49, 50, 51, 52, 53, 54, 55, 56, 57, 58, 59, 60, 61, 62, 63, 64, 65, 66, 67, 68, 69, 70, 71, 72, 73, 74, 75, 76, 77, 78, 79, 80, 81, 82, 83, 84, 85, 86, 87, 88, 89, 90, 91, 92, 93, 94, 95, 96, 97, 98, 99, 100, 101, 102, 103, 104, 105, 106, 107, 108, 109, 110, 111, 112, 113, 114, 115, 116, 117, 118, 119, 120, 121, 122, 123, 124, 125, 126, 127, 128, 129, 130, 131, 132, 133, 134, 135, 136, 137, 138, 139, 140, 141, 142, 143, 144, 145, 146, 147, 148, 149, 150, 151, 152, 153, 154, 155, 156, 157, 158, 159, 160, 161, 162, 163, 164, 165, 166, 167, 168, 169, 170, 171, 172, 173, 174, 175, 176, 234, 235, 236, 237, 238, 239, 240, 241, 242, 243, 244, 245, 246, 247, 248, 249, 250, 251, 252, 253, 254, 255, 256, 259, 260, 261, 262, 263, 264, 265, 266, 267, 268, 269, 270, 271, 272, 273, 274, 275, 276, 277, 278, 279, 280, 281, 282] rfl (by decide +kernel)) (goodIn_sub (fun _ h => List.mem_cons_of_mem _ (List.mem_append_right _ h)) (by decide +kernel))
set_option maxRecDepth 100000 in
theorem gX10_writeChapters_X10_requireDivision : GoodIn wsX10_writeChapters (wsV RX10 230 RX10 yX10_requireDivision wsX10_requireDivision) := goodIn_app (goodIn_of _ (by decide +kernel)) ggX10_writeChapters_X10_requireDivision
set_option maxRecDepth 100000 in
theorem ggX10_writeChapters_X3_clear : GoodIn wsX10_writeChapters wsX3_clear := goodIn_r _ [181, 182, 257, 258] rfl (by decide +kernel)
set_option maxRecDepth 100000 in
theorem gX10_writeChapters_X3_clear : GoodIn wsX10_writeChapters (wsV RX10 358 RX3 yX3_clear wsX3_clear) := goodIn_app (goodIn_of _ (by decide +kernel)) ggX10_writeChapters_X3_clear
set_option maxRecDepth 100000 in
theorem ggX10_writeChapters_X4_realTime : GoodIn wsX10_writeChapters wsX4_realTime := goodIn_r _ [186, 109, 160, 113, 114, 161, 187, 188, 189, 190, 39, 191, 192, 37, 38, 40, 41, 42, 259, 260, 261, 262, 271, 272, 273, 274, 275, 276, 277, 278, 279, 280, 263, 264, 265, 266, 267, 268, 269, 270] rfl (by decide +kernel)
set_option maxRecDepth 100000 in
theorem gX10_writeChapters_X4_realTime : GoodIn wsX10_writeChapters (wsV RX10 171 RX4 yX4_realTime wsX4_realTime) := goodIn_app (goodIn_of _ (by decide +kernel)) ggX10_writeChapters_X4_realTime
set_option maxRecDepth 100000 in
theorem ggX10_writeChapters_X3_putNumber : GoodIn wsX10_writeChapters wsX3_putNumber := goodIn_r _ [196, 197, 198, 199, 200, 180, 201, 182, 202, 257, 258] rfl (by decide +kernel)
set_option maxRecDepth 100000 in
theorem gX10_writeChapters_X3_putNumber : GoodIn wsX10_writeChapters (wsV RX10 361 RX3 yX3_putNumber wsX3_putNumber) := goodIn_app (goodIn_of _ (by decide +kernel)) ggX10_writeChapters_X3_putNumber
set_option maxRecDepth 100000 in
theorem ggX10_writeChapters_X3_put : GoodIn wsX10_writeChapters wsX3_put := goodIn_r _ [201, 182, 202, 257, 258] rfl (by decide +kernel)
set_option maxRecDepth 100000 in
theorem gX10_writeChapters_X3_put : GoodIn wsX10_writeChapters (wsV RX10 364 RX3 yX3_put wsX3_put) := goodIn_app (goodIn_of _ (by decide +kernel)) ggX10_writeChapters_X3_put
set_option maxRecDepth 100000 in
theorem ggX10_writeChapters_X10_writeTitle : GoodIn wsX10_writeChapters wsX10_writeTitle := goodIn_r _ [207, 20, 1, 5, 21, 208, 209, 210, 211, 165, 212, 213, 214, 215, 216, 217, 218, 219, 220, 167, 221, 222, 223, 224, 225, 226, 227, 228, 168, 203, 199, 200, 180, 201, 182, 202, 229, 230, 231, 232, 233, 198, 234, 235, 236, 237, 238, 239, 240, 241, 259, 260, 261, 262, 263, 264, 265, 266, 267, 268, 269, 270, 281, 282, 257, 258] rfl (by decide +kernel)
set_option maxRecDepth 100000 in
theorem gX10_writeChapters_X10_writeTitle : GoodIn wsX10_writeChapters (wsV RX10 368 RX10 yX10_writeTitle wsX10_writeTitle) := goodIn_app (goodIn_of _ (by decide +kernel)) ggX10_writeChapters_X10_writeTitle
theorem dX10_writeChapters_0 : decode cX10_writeChapters 0 = .ok (.aload_n 0, 1) := by decide +kernel
theorem dX10_writeChapters_1 : decode cX10_writeChapters 1 = .ok (.invokevirtual 230, 3) := by decide +kernel
theorem dX10_writeChapters_4 : decode cX10_writeChapters 4 = .ok (.aload_n 0, 1) := by decide +kernel
theorem dX10_writeChapters_5 : decode cX10_writeChapters 5 = .ok (.getfield 54, 3) := by decide +kernel
theorem dX10_writeChapters_8 : decode cX10_writeChapters 8 = .ok (.invokevirtual 358, 3) := by decide +kernel
theorem dX10_writeChapters_11 : decode cX10_writeChapters 11 = .ok (.iconst 0, 1) := by decide +kernel
theorem dX10_writeChapters_12 : decode cX10_writeChapters 12 = .ok (.istore_n 1, 1) := by decide +kernel
theorem dX10_writeChapters_13 : decode cX10_writeChapters 13 = .ok (.iload_n 1, 1) := by decide +kernel
theorem dX10_writeChapters_14 : decode cX10_writeChapters 14 = .ok (.aload_n 0, 1) := by decide +kernel
theorem dX10_writeChapters_15 : decode cX10_writeChapters 15 = .ok (.getfield 33, 3) := by decide +kernel
theorem dX10_writeChapters_18 : decode cX10_writeChapters 18 = .ok (.getfield 227, 3) := by decide +kernel
theorem dX10_writeChapters_21 : decode cX10_writeChapters 21 = .ok (.if_icmp .ge 59, 3) := by decide +kernel
theorem dX10_writeChapters_24 : decode cX10_writeChapters 24 = .ok (.aload_n 0, 1) := by decide +kernel
theorem dX10_writeChapters_25 : decode cX10_writeChapters 25 = .ok (.getfield 54, 3) := by decide +kernel
theorem dX10_writeChapters_28 : decode cX10_writeChapters 28 = .ok (.aload_n 0, 1) := by decide +kernel
theorem dX10_writeChapters_29 : decode cX10_writeChapters 29 = .ok (.getfield 40, 3) := by decide +kernel
theorem dX10_writeChapters_32 : decode cX10_writeChapters 32 = .ok (.aload_n 0, 1) := by decide +kernel
theorem dX10_writeChapters_33 : decode cX10_writeChapters 33 = .ok (.getfield 12, 3) := by decide +kernel
theorem dX10_writeChapters_36 : decode cX10_writeChapters 36 = .ok (.aload_n 0, 1) := by decide +kernel
theorem dX10_writeChapters_37 : decode cX10_writeChapters 37 = .ok (.getfield 33, 3) := by decide +kernel
theorem dX10_writeChapters_40 : decode cX10_writeChapters 40 = .ok (.getfield 239, 3) := by decide +kernel
theorem dX10_writeChapters_43 : decode cX10_writeChapters 43 = .ok (.iload_n 1, 1) := by decide +kernel
theorem dX10_writeChapters_44 : decode cX10_writeChapters 44 = .ok (.iaload, 1) := by decide +kernel
theorem dX10_writeChapters_45 : decode cX10_writeChapters 45 = .ok (.invokevirtual 171, 3) := by decide +kernel
theorem dX10_writeChapters_48 : decode cX10_writeChapters 48 = .ok (.invokevirtual 361, 3) := by decide +kernel
theorem dX10_writeChapters_51 : decode cX10_writeChapters 51 = .ok (.aload_n 0, 1) := by decide +kernel
theorem dX10_writeChapters_52 : decode cX10_writeChapters 52 = .ok (.getfield 54, 3) := by decide +kernel
theorem dX10_writeChapters_55 : decode cX10_writeChapters 55 = .ok (.bipush 32, 2) := by decide +kernel
theorem dX10_writeChapters_57 : decode cX10_writeChapters 57 = .ok (.invokevirtual 364, 3) := by decide +kernel
theorem dX10_writeChapters_60 : decode cX10_writeChapters 60 = .ok (.aload_n 0, 1) := by decide +kernel
theorem dX10_writeChapters_61 : decode cX10_writeChapters 61 = .ok (.iload_n 1, 1) := by decide +kernel
theorem dX10_writeChapters_62 : decode cX10_writeChapters 62 = .ok (.invokevirtual 368, 3) := by decide +kernel
theorem dX10_writeChapters_65 : decode cX10_writeChapters 65 = .ok (.aload_n 0, 1) := by decide +kernel
theorem dX10_writeChapters_66 : decode cX10_writeChapters 66 = .ok (.getfield 54, 3) := by decide +kernel
theorem dX10_writeChapters_69 : decode cX10_writeChapters 69 = .ok (.bipush 59, 2) := by decide +kernel
theorem dX10_writeChapters_71 : decode cX10_writeChapters 71 = .ok (.invokevirtual 364, 3) := by decide +kernel
theorem dX10_writeChapters_74 : decode cX10_writeChapters 74 = .ok (.iinc 1 1, 3) := by decide +kernel
theorem dX10_writeChapters_77 : decode cX10_writeChapters 77 = .ok (.goto (-64), 3) := by decide +kernel
theorem dX10_writeChapters_80 : decode cX10_writeChapters 80 = .ok (.aload_n 0, 1) := by decide +kernel
theorem dX10_writeChapters_81 : decode cX10_writeChapters 81 = .ok (.getfield 54, 3) := by decide +kernel
theorem dX10_writeChapters_84 : decode cX10_writeChapters 84 = .ok (.getfield 371, 3) := by decide +kernel
theorem dX10_writeChapters_87 : decode cX10_writeChapters 87 = .ok (.ireturn, 1) := by decide +kernel
theorem dX10_writtenByte_0 : decode cX10_writtenByte 0 = .ok (.iload_n 1, 1) := by decide +kernel
theorem dX10_writtenByte_1 : decode cX10_writtenByte 1 = .ok (.ifCond .lt 14, 3) := by decide +kernel
theorem dX10_writtenByte_4 : decode cX10_writtenByte 4 = .ok (.iload_n 1, 1) := by decide +kernel
theorem dX10_writtenByte_5 : decode cX10_writtenByte 5 = .ok (.aload_n 0, 1) := by decide +kernel
theorem dX10_writtenByte_6 : decode cX10_writtenByte 6 = .ok (.getfield 54, 3) := by decide +kernel
theorem dX10_writtenByte_9 : decode cX10_writtenByte 9 = .ok (.getfield 371, 3) := by decide +kernel
theorem dX10_writtenByte_12 : decode cX10_writtenByte 12 = .ok (.if_icmp .lt 14, 3) := by decide +kernel
theorem dX10_writtenByte_15 : decode cX10_writtenByte 15 = .ok (.new 177, 3) := by decide +kernel
theorem dX10_writtenByte_18 : decode cX10_writtenByte 18 = .ok (.dup, 1) := by decide +kernel
theorem dX10_writtenByte_19 : decode cX10_writtenByte 19 = .ok (.ldc_w 374, 3) := by decide +kernel
theorem dX10_writtenByte_22 : decode cX10_writtenByte 22 = .ok (.invokespecial 181, 3) := by decide +kernel
theorem dX10_writtenByte_25 : decode cX10_writtenByte 25 = .ok (.athrow, 1) := by decide +kernel
theorem dX10_writtenByte_26 : decode cX10_writtenByte 26 = .ok (.aload_n 0, 1) := by decide +kernel
theorem dX10_writtenByte_27 : decode cX10_writtenByte 27 = .ok (.getfield 54, 3) := by decide +kernel
theorem dX10_writtenByte_30 : decode cX10_writtenByte 30 = .ok (.getfield 376, 3) := by decide +kernel
theorem dX10_writtenByte_33 : decode cX10_writtenByte 33 = .ok (.iload_n 1, 1) := by decide +kernel
theorem dX10_writtenByte_34 : decode cX10_writtenByte 34 = .ok (.iaload, 1) := by decide +kernel
theorem dX10_writtenByte_35 : decode cX10_writtenByte 35 = .ok (.ireturn, 1) := by decide +kernel
set_option maxRecDepth 100000 in
theorem ggX10_undo_X1_bringBack : GoodIn wsX10_undo wsX1_bringBack := goodIn_r _ [11, 12, 13, 14, 15, 16, 17, 18, 19, 20, 21, 22, 23, 24, 25, 26, 27, 28, 29, 30, 31, 32, 33, 34, 35, 36, 37, 38, 39, 40, 41, 42, 43, 44, 45, 46, 47, 48, 49, 50, 51, 52, 53, 54, 55, 56, 57, 58, 59, 60, 61, 62, 63, 72, 73, 74, 75, 76, 77, 78, 79, 80, 81, 82, 83, 84, 85, 86, 87, 88, 89, 90, 91, 92, 93, 94, 95, 96] rfl (by decide +kernel)
set_option maxRecDepth 100000 in
theorem gX10_undo_X1_bringBack : GoodIn wsX10_undo (wsV RX10 384 RX1 yX1_bringBack wsX1_bringBack) := goodIn_app (goodIn_of _ (by decide +kernel)) ggX10_undo_X1_bringBack
theorem dX10_undo_0 : decode cX10_undo 0 = .ok (.aload_n 0, 1) := by decide +kernel
theorem dX10_undo_1 : decode cX10_undo 1 = .ok (.getfield 19, 3) := by decide +kernel
theorem dX10_undo_4 : decode cX10_undo 4 = .ok (.getfield 379, 3) := by decide +kernel
theorem dX10_undo_7 : decode cX10_undo 7 = .ok (.ifCond .ne 14, 3) := by decide +kernel
theorem dX10_undo_10 : decode cX10_undo 10 = .ok (.new 66, 3) := by decide +kernel
theorem dX10_undo_13 : decode cX10_undo 13 = .ok (.dup, 1) := by decide +kernel
theorem dX10_undo_14 : decode cX10_undo 14 = .ok (.ldc_w 382, 3) := by decide +kernel
theorem dX10_undo_17 : decode cX10_undo 17 = .ok (.invokespecial 70, 3) := by decide +kernel
theorem dX10_undo_20 : decode cX10_undo 20 = .ok (.athrow, 1) := by decide +kernel
theorem dX10_undo_21 : decode cX10_undo 21 = .ok (.aload_n 0, 1) := by decide +kernel
theorem dX10_undo_22 : decode cX10_undo 22 = .ok (.getfield 19, 3) := by decide +kernel
theorem dX10_undo_25 : decode cX10_undo 25 = .ok (.aload_n 0, 1) := by decide +kernel
theorem dX10_undo_26 : decode cX10_undo 26 = .ok (.getfield 12, 3) := by decide +kernel
theorem dX10_undo_29 : decode cX10_undo 29 = .ok (.invokevirtual 384, 3) := by decide +kernel
theorem dX10_undo_32 : decode cX10_undo 32 = .ok (.aload_n 0, 1) := by decide +kernel
theorem dX10_undo_33 : decode cX10_undo 33 = .ok (.iconst 1, 1) := by decide +kernel
theorem dX10_undo_34 : decode cX10_undo 34 = .ok (.putfield 58, 3) := by decide +kernel
theorem dX10_undo_37 : decode cX10_undo 37 = .ok (.aload_n 0, 1) := by decide +kernel
theorem dX10_undo_38 : decode cX10_undo 38 = .ok (.getfield 19, 3) := by decide +kernel
theorem dX10_undo_41 : decode cX10_undo 41 = .ok (.getfield 379, 3) := by decide +kernel
theorem dX10_undo_44 : decode cX10_undo 44 = .ok (.ireturn, 1) := by decide +kernel
set_option maxRecDepth 100000 in
theorem ggX10_beginChange_X1_remember : GoodIn wsX10_beginChange wsX1_remember := goodIn_r _ [8, 9, 10, 11, 12, 13, 14, 15, 16, 17, 18, 19, 20, 21, 22, 23, 24, 25, 26, 27, 28, 29, 30, 31, 32, 33, 34, 35, 36, 37, 38, 39, 40, 41, 42, 43, 44, 45, 46, 47, 48, 49, 50, 51, 52, 53, 54, 55, 56, 57, 58, 59, 60, 69, 70, 71, 72, 73, 74, 75, 76, 77, 78, 79, 80, 81, 82, 83, 84, 85, 86, 87, 88, 89, 90, 91, 92, 93] rfl (by decide +kernel)
set_option maxRecDepth 100000 in
theorem gX10_beginChange_X1_remember : GoodIn wsX10_beginChange (wsV RX10 387 RX1 yX1_remember wsX1_remember) := goodIn_app (goodIn_of _ (by decide +kernel)) ggX10_beginChange_X1_remember
theorem dX10_beginChange_0 : decode cX10_beginChange 0 = .ok (.aload_n 0, 1) := by decide +kernel
theorem dX10_beginChange_1 : decode cX10_beginChange 1 = .ok (.getfield 19, 3) := by decide +kernel
theorem dX10_beginChange_4 : decode cX10_beginChange 4 = .ok (.aload_n 0, 1) := by decide +kernel
theorem dX10_beginChange_5 : decode cX10_beginChange 5 = .ok (.getfield 12, 3) := by decide +kernel
theorem dX10_beginChange_8 : decode cX10_beginChange 8 = .ok (.invokevirtual 387, 3) := by decide +kernel
theorem dX10_beginChange_11 : decode cX10_beginChange 11 = .ok (.aload_n 0, 1) := by decide +kernel
theorem dX10_beginChange_12 : decode cX10_beginChange 12 = .ok (.iconst 1, 1) := by decide +kernel
theorem dX10_beginChange_13 : decode cX10_beginChange 13 = .ok (.putfield 58, 3) := by decide +kernel
theorem dX10_beginChange_16 : decode cX10_beginChange 16 = .ok (.return_, 1) := by decide +kernel
set_option maxRecDepth 100000 in
theorem ggX10_refresh_X0_update : GoodIn wsX10_refresh wsX0_update := goodIn_r _ [11, 12, 13, 14, 15, 16, 17, 18, 19, 20, 21, 22, 23, 24, 25, 26, 27, 28, 29, 30, 10, 31, 32, 33, 34, 35, 36, 37, 38, 39, 40, 41, 42, 43, 44, 45, 46, 47, 48, 49, 50, 51, 52, 53, 54, 55, 56, 57, 58, 59, 60, 61, 62, 63, 64, 65, 66, 67, 68, 69, 70, 71, 72, 73, 74, 75, 76, 77, 78, 79, 80, 81, 82, 83, 84, 85, 86, 87, 88, 89, 171, 172, 173, 174, 175, 176, 177, 178, 179, 180, 181, 182, 183, 184, 185, 186, 187, 188, 189, 190, 191, 192, 193, 194, 195, 196, 197] rfl (by decide +kernel)
set_option maxRecDepth 100000 in
theorem gX10_refresh_X0_update : GoodIn wsX10_refresh (wsV RX10 390 RX0 yX0_update wsX0_update) := goodIn_app (goodIn_of _ (by decide +kernel)) ggX10_refresh_X0_update
set_option maxRecDepth 100000 in
theorem ggX10_refresh_X4_update : GoodIn wsX10_refresh wsX4_update := goodIn_r _ [94, 95, 96, 97, 98, 99, 100, 101, 102, 103, 104, 24, 105, 106, 107, 108, 109, 10, 110, 18, 111, 112, 113, 114, 20, 89, 115, 116, 117, 93, 118, 119, 120, 121, 122, 123, 124, 125, 126, 127, 128, 129, 27, 130, 131, 132, 133, 134, 135, 136, 36, 137, 138, 139, 140, 141, 142, 143, 144, 145, 146, 147, 171, 172, 173, 174, 198, 199, 200, 201, 202, 203, 204, 205, 206, 207, 175, 176, 177, 178, 179, 180, 181, 182, 183, 184, 185, 186, 187, 188, 189, 190, 191, 192, 193, 194, 195, 196, 197] rfl (by decide +kernel)
set_option maxRecDepth 100000 in
theorem gX10_refresh_X4_update : GoodIn wsX10_refresh (wsV RX10 393 RX4 yX4_update wsX4_update) := goodIn_app (goodIn_of _ (by decide +kernel)) ggX10_refresh_X4_update
set_option maxRecDepth 100000 in
theorem ggX10_refresh_X8_update : GoodIn wsX10_refresh wsX8_update := goodIn_r _ [152, 153, 154, 155, 156, 157, 42, 43, 44, 158, 159, 160, 10, 161, 20, 88, 14, 162, 46, 47, 24, 48, 49, 50, 51, 52, 53, 27, 54, 55, 56, 57, 58, 208, 209, 183, 184, 185, 186, 187, 188, 189, 190, 191, 192, 193, 194, 195, 196, 197, 175, 176, 177, 178, 179, 180, 181, 182] rfl (by decide +kernel)
set_option maxRecDepth 100000 in
theorem gX10_refresh_X8_update : GoodIn wsX10_refresh (wsV RX10 396 RX8 yX8_update wsX8_update) := goodIn_app (goodIn_of _ (by decide +kernel)) ggX10_refresh_X8_update
theorem dX10_refresh_0 : decode cX10_refresh 0 = .ok (.aload_n 0, 1) := by decide +kernel
theorem dX10_refresh_1 : decode cX10_refresh 1 = .ok (.getfield 58, 3) := by decide +kernel
theorem dX10_refresh_4 : decode cX10_refresh 4 = .ok (.ifCond .ne 4, 3) := by decide +kernel
theorem dX10_refresh_7 : decode cX10_refresh 7 = .ok (.return_, 1) := by decide +kernel
theorem dX10_refresh_8 : decode cX10_refresh 8 = .ok (.aload_n 0, 1) := by decide +kernel
theorem dX10_refresh_9 : decode cX10_refresh 9 = .ok (.getfield 33, 3) := by decide +kernel
theorem dX10_refresh_12 : decode cX10_refresh 12 = .ok (.aload_n 0, 1) := by decide +kernel
theorem dX10_refresh_13 : decode cX10_refresh 13 = .ok (.getfield 12, 3) := by decide +kernel
theorem dX10_refresh_16 : decode cX10_refresh 16 = .ok (.invokevirtual 390, 3) := by decide +kernel
theorem dX10_refresh_19 : decode cX10_refresh 19 = .ok (.aload_n 0, 1) := by decide +kernel
theorem dX10_refresh_20 : decode cX10_refresh 20 = .ok (.getfield 40, 3) := by decide +kernel
theorem dX10_refresh_23 : decode cX10_refresh 23 = .ok (.aload_n 0, 1) := by decide +kernel
theorem dX10_refresh_24 : decode cX10_refresh 24 = .ok (.getfield 12, 3) := by decide +kernel
theorem dX10_refresh_27 : decode cX10_refresh 27 = .ok (.aload_n 0, 1) := by decide +kernel
theorem dX10_refresh_28 : decode cX10_refresh 28 = .ok (.getfield 33, 3) := by decide +kernel
theorem dX10_refresh_31 : decode cX10_refresh 31 = .ok (.invokevirtual 393, 3) := by decide +kernel
theorem dX10_refresh_34 : decode cX10_refresh 34 = .ok (.aload_n 0, 1) := by decide +kernel
theorem dX10_refresh_35 : decode cX10_refresh 35 = .ok (.getfield 47, 3) := by decide +kernel
theorem dX10_refresh_38 : decode cX10_refresh 38 = .ok (.aload_n 0, 1) := by decide +kernel
theorem dX10_refresh_39 : decode cX10_refresh 39 = .ok (.getfield 12, 3) := by decide +kernel
theorem dX10_refresh_42 : decode cX10_refresh 42 = .ok (.getfield 102, 3) := by decide +kernel
theorem dX10_refresh_45 : decode cX10_refresh 45 = .ok (.aload_n 0, 1) := by decide +kernel
theorem dX10_refresh_46 : decode cX10_refresh 46 = .ok (.getfield 33, 3) := by decide +kernel
theorem dX10_refresh_49 : decode cX10_refresh 49 = .ok (.invokevirtual 396, 3) := by decide +kernel
theorem dX10_refresh_52 : decode cX10_refresh 52 = .ok (.aload_n 0, 1) := by decide +kernel
theorem dX10_refresh_53 : decode cX10_refresh 53 = .ok (.iconst 0, 1) := by decide +kernel
theorem dX10_refresh_54 : decode cX10_refresh 54 = .ok (.putfield 58, 3) := by decide +kernel
theorem dX10_refresh_57 : decode cX10_refresh 57 = .ok (.return_, 1) := by decide +kernel
set_option maxRecDepth 100000 in
theorem ggX10_writeTitle_X8_titleWord : GoodIn wsX10_writeTitle wsX8_titleWord := goodIn_r _ [10, 11, 12, 13, 9, 14, 15, 16, 17, 18, 19, 20, 21, 22, 23, 24, 25, 26, 27, 28, 62, 63] rfl (by decide +kernel)
set_option maxRecDepth 100000 in
theorem gX10_writeTitle_X8_titleWord : GoodIn wsX10_writeTitle (wsV RX10 302 RX8 yX8_titleWord wsX8_titleWord) := goodIn_app (goodIn_of _ (by decide +kernel)) ggX10_writeTitle_X8_titleWord
set_option maxRecDepth 100000 in
theorem ggX10_writeTitle_X3_put : GoodIn wsX10_writeTitle wsX3_put := goodIn_r _ [33, 34, 35, 64, 65] rfl (by decide +kernel)
set_option maxRecDepth 100000 in
theorem gX10_writeTitle_X3_put : GoodIn wsX10_writeTitle (wsV RX10 364 RX3 yX3_put wsX3_put) := goodIn_app (goodIn_of _ (by decide +kernel)) ggX10_writeTitle_X3_put
set_option maxRecDepth 100000 in
theorem ggX10_writeTitle_X3_putName : GoodIn wsX10_writeTitle wsX3_putName := goodIn_r _ [39, 40, 41, 30, 31, 32, 33, 34, 35, 64, 65] rfl (by decide +kernel)
set_option maxRecDepth 100000 in
theorem gX10_writeTitle_X3_putName : GoodIn wsX10_writeTitle (wsV RX10 403 RX3 yX3_putName wsX3_putName) := goodIn_app (goodIn_of _ (by decide +kernel)) ggX10_writeTitle_X3_putName
theorem dX10_writeTitle_0 : decode cX10_writeTitle 0 = .ok (.iconst 0, 1) := by decide +kernel
theorem dX10_writeTitle_1 : decode cX10_writeTitle 1 = .ok (.istore_n 2, 1) := by decide +kernel
theorem dX10_writeTitle_2 : decode cX10_writeTitle 2 = .ok (.iload_n 2, 1) := by decide +kernel
theorem dX10_writeTitle_3 : decode cX10_writeTitle 3 = .ok (.iconst 3, 1) := by decide +kernel
theorem dX10_writeTitle_4 : decode cX10_writeTitle 4 = .ok (.if_icmp .ge 57, 3) := by decide +kernel
theorem dX10_writeTitle_7 : decode cX10_writeTitle 7 = .ok (.aload_n 0, 1) := by decide +kernel
theorem dX10_writeTitle_8 : decode cX10_writeTitle 8 = .ok (.getfield 47, 3) := by decide +kernel
theorem dX10_writeTitle_11 : decode cX10_writeTitle 11 = .ok (.iload_n 1, 1) := by decide +kernel
theorem dX10_writeTitle_12 : decode cX10_writeTitle 12 = .ok (.iload_n 2, 1) := by decide +kernel
theorem dX10_writeTitle_13 : decode cX10_writeTitle 13 = .ok (.invokevirtual 302, 3) := by decide +kernel
theorem dX10_writeTitle_16 : decode cX10_writeTitle 16 = .ok (.istore_n 3, 1) := by decide +kernel
theorem dX10_writeTitle_17 : decode cX10_writeTitle 17 = .ok (.iload_n 3, 1) := by decide +kernel
theorem dX10_writeTitle_18 : decode cX10_writeTitle 18 = .ok (.iconst (-1), 1) := by decide +kernel
theorem dX10_writeTitle_19 : decode cX10_writeTitle 19 = .ok (.if_icmp .ne 4, 3) := by decide +kernel
theorem dX10_writeTitle_22 : decode cX10_writeTitle 22 = .ok (.return_, 1) := by decide +kernel
theorem dX10_writeTitle_23 : decode cX10_writeTitle 23 = .ok (.iload_n 2, 1) := by decide +kernel
theorem dX10_writeTitle_24 : decode cX10_writeTitle 24 = .ok (.ifCond .le 12, 3) := by decide +kernel
theorem dX10_writeTitle_27 : decode cX10_writeTitle 27 = .ok (.aload_n 0, 1) := by decide +kernel
theorem dX10_writeTitle_28 : decode cX10_writeTitle 28 = .ok (.getfield 54, 3) := by decide +kernel
theorem dX10_writeTitle_31 : decode cX10_writeTitle 31 = .ok (.bipush 45, 2) := by decide +kernel
theorem dX10_writeTitle_33 : decode cX10_writeTitle 33 = .ok (.invokevirtual 364, 3) := by decide +kernel
theorem dX10_writeTitle_36 : decode cX10_writeTitle 36 = .ok (.aload_n 0, 1) := by decide +kernel
theorem dX10_writeTitle_37 : decode cX10_writeTitle 37 = .ok (.getfield 54, 3) := by decide +kernel
theorem dX10_writeTitle_40 : decode cX10_writeTitle 40 = .ok (.aload_n 0, 1) := by decide +kernel
theorem dX10_writeTitle_41 : decode cX10_writeTitle 41 = .ok (.getfield 12, 3) := by decide +kernel
theorem dX10_writeTitle_44 : decode cX10_writeTitle 44 = .ok (.getfield 102, 3) := by decide +kernel
theorem dX10_writeTitle_47 : decode cX10_writeTitle 47 = .ok (.getfield 399, 3) := by decide +kernel
theorem dX10_writeTitle_50 : decode cX10_writeTitle 50 = .ok (.iload_n 3, 1) := by decide +kernel
theorem dX10_writeTitle_51 : decode cX10_writeTitle 51 = .ok (.laload, 1) := by decide +kernel
theorem dX10_writeTitle_52 : decode cX10_writeTitle 52 = .ok (.invokevirtual 403, 3) := by decide +kernel
theorem dX10_writeTitle_55 : decode cX10_writeTitle 55 = .ok (.iinc 2 1, 3) := by decide +kernel
theorem dX10_writeTitle_58 : decode cX10_writeTitle 58 = .ok (.goto (-56), 3) := by decide +kernel
theorem dX10_writeTitle_61 : decode cX10_writeTitle 61 = .ok (.return_, 1) := by decide +kernel
theorem dX10_requireSetting_0 : decode cX10_requireSetting 0 = .ok (.iload_n 1, 1) := by decide +kernel
theorem dX10_requireSetting_1 : decode cX10_requireSetting 1 = .ok (.ifCond .lt 9, 3) := by decide +kernel
theorem dX10_requireSetting_4 : decode cX10_requireSetting 4 = .ok (.iload_n 1, 1) := by decide +kernel
theorem dX10_requireSetting_5 : decode cX10_requireSetting 5 = .ok (.bipush 6, 2) := by decide +kernel
theorem dX10_requireSetting_7 : decode cX10_requireSetting 7 = .ok (.if_icmp .lt 14, 3) := by decide +kernel
theorem dX10_requireSetting_10 : decode cX10_requireSetting 10 = .ok (.new 177, 3) := by decide +kernel
theorem dX10_requireSetting_13 : decode cX10_requireSetting 13 = .ok (.dup, 1) := by decide +kernel
theorem dX10_requireSetting_14 : decode cX10_requireSetting 14 = .ok (.ldc_w 407, 3) := by decide +kernel
theorem dX10_requireSetting_17 : decode cX10_requireSetting 17 = .ok (.invokespecial 181, 3) := by decide +kernel
theorem dX10_requireSetting_20 : decode cX10_requireSetting 20 = .ok (.athrow, 1) := by decide +kernel
theorem dX10_requireSetting_21 : decode cX10_requireSetting 21 = .ok (.return_, 1) := by decide +kernel
theorem dX10_requireSegment_0 : decode cX10_requireSegment 0 = .ok (.iload_n 1, 1) := by decide +kernel
theorem dX10_requireSegment_1 : decode cX10_requireSegment 1 = .ok (.ifCond .lt 17, 3) := by decide +kernel
theorem dX10_requireSegment_4 : decode cX10_requireSegment 4 = .ok (.iload_n 1, 1) := by decide +kernel
theorem dX10_requireSegment_5 : decode cX10_requireSegment 5 = .ok (.aload_n 0, 1) := by decide +kernel
theorem dX10_requireSegment_6 : decode cX10_requireSegment 6 = .ok (.getfield 12, 3) := by decide +kernel
theorem dX10_requireSegment_9 : decode cX10_requireSegment 9 = .ok (.getfield 102, 3) := by decide +kernel
theorem dX10_requireSegment_12 : decode cX10_requireSegment 12 = .ok (.getfield 106, 3) := by decide +kernel
theorem dX10_requireSegment_15 : decode cX10_requireSegment 15 = .ok (.if_icmp .lt 14, 3) := by decide +kernel
theorem dX10_requireSegment_18 : decode cX10_requireSegment 18 = .ok (.new 177, 3) := by decide +kernel
theorem dX10_requireSegment_21 : decode cX10_requireSegment 21 = .ok (.dup, 1) := by decide +kernel
theorem dX10_requireSegment_22 : decode cX10_requireSegment 22 = .ok (.ldc_w 409, 3) := by decide +kernel
theorem dX10_requireSegment_25 : decode cX10_requireSegment 25 = .ok (.invokespecial 181, 3) := by decide +kernel
theorem dX10_requireSegment_28 : decode cX10_requireSegment 28 = .ok (.athrow, 1) := by decide +kernel
theorem dX10_requireSegment_29 : decode cX10_requireSegment 29 = .ok (.return_, 1) := by decide +kernel
set_option maxRecDepth 100000 in
theorem ggX10_requireBoundary_X9_boundaryCount : GoodIn wsX10_requireBoundary wsX9_boundaryCount := goodIn_r _ [9, 10, 23, 24, 25, 26, 27, 28, 29, 30] rfl (by decide +kernel)
set_option maxRecDepth 100000 in
theorem gX10_requireBoundary_X9_boundaryCount : GoodIn wsX10_requireBoundary (wsV RX10 411 RX9 yX9_boundaryCount wsX9_boundaryCount) := goodIn_app (goodIn_of _ (by decide +kernel)) ggX10_requireBoundary_X9_boundaryCount
theorem dX10_requireBoundary_0 : decode cX10_requireBoundary 0 = .ok (.iload_n 1, 1) := by decide +kernel
theorem dX10_requireBoundary_1 : decode cX10_requireBoundary 1 = .ok (.ifCond .lt 17, 3) := by decide +kernel
theorem dX10_requireBoundary_4 : decode cX10_requireBoundary 4 = .ok (.iload_n 1, 1) := by decide +kernel
theorem dX10_requireBoundary_5 : decode cX10_requireBoundary 5 = .ok (.aload_n 0, 1) := by decide +kernel
theorem dX10_requireBoundary_6 : decode cX10_requireBoundary 6 = .ok (.getfield 12, 3) := by decide +kernel
theorem dX10_requireBoundary_9 : decode cX10_requireBoundary 9 = .ok (.getfield 102, 3) := by decide +kernel
theorem dX10_requireBoundary_12 : decode cX10_requireBoundary 12 = .ok (.invokevirtual 411, 3) := by decide +kernel
theorem dX10_requireBoundary_15 : decode cX10_requireBoundary 15 = .ok (.if_icmp .lt 14, 3) := by decide +kernel
theorem dX10_requireBoundary_18 : decode cX10_requireBoundary 18 = .ok (.new 177, 3) := by decide +kernel
theorem dX10_requireBoundary_21 : decode cX10_requireBoundary 21 = .ok (.dup, 1) := by decide +kernel
theorem dX10_requireBoundary_22 : decode cX10_requireBoundary 22 = .ok (.ldc_w 414, 3) := by decide +kernel
theorem dX10_requireBoundary_25 : decode cX10_requireBoundary 25 = .ok (.invokespecial 181, 3) := by decide +kernel
theorem dX10_requireBoundary_28 : decode cX10_requireBoundary 28 = .ok (.athrow, 1) := by decide +kernel
theorem dX10_requireBoundary_29 : decode cX10_requireBoundary 29 = .ok (.return_, 1) := by decide +kernel
theorem dX10_requireWord_0 : decode cX10_requireWord 0 = .ok (.iload_n 1, 1) := by decide +kernel
theorem dX10_requireWord_1 : decode cX10_requireWord 1 = .ok (.ifCond .lt 17, 3) := by decide +kernel
theorem dX10_requireWord_4 : decode cX10_requireWord 4 = .ok (.iload_n 1, 1) := by decide +kernel
theorem dX10_requireWord_5 : decode cX10_requireWord 5 = .ok (.aload_n 0, 1) := by decide +kernel
theorem dX10_requireWord_6 : decode cX10_requireWord 6 = .ok (.getfield 12, 3) := by decide +kernel
theorem dX10_requireWord_9 : decode cX10_requireWord 9 = .ok (.getfield 102, 3) := by decide +kernel
theorem dX10_requireWord_12 : decode cX10_requireWord 12 = .ok (.getfield 114, 3) := by decide +kernel
theorem dX10_requireWord_15 : decode cX10_requireWord 15 = .ok (.if_icmp .lt 14, 3) := by decide +kernel
theorem dX10_requireWord_18 : decode cX10_requireWord 18 = .ok (.new 177, 3) := by decide +kernel
theorem dX10_requireWord_21 : decode cX10_requireWord 21 = .ok (.dup, 1) := by decide +kernel
theorem dX10_requireWord_22 : decode cX10_requireWord 22 = .ok (.ldc_w 416, 3) := by decide +kernel
theorem dX10_requireWord_25 : decode cX10_requireWord 25 = .ok (.invokespecial 181, 3) := by decide +kernel
theorem dX10_requireWord_28 : decode cX10_requireWord 28 = .ok (.athrow, 1) := by decide +kernel
theorem dX10_requireWord_29 : decode cX10_requireWord 29 = .ok (.return_, 1) := by decide +kernel
theorem dX10_requireSlot_0 : decode cX10_requireSlot 0 = .ok (.iload_n 1, 1) := by decide +kernel
theorem dX10_requireSlot_1 : decode cX10_requireSlot 1 = .ok (.ifCond .lt 17, 3) := by decide +kernel
theorem dX10_requireSlot_4 : decode cX10_requireSlot 4 = .ok (.iload_n 1, 1) := by decide +kernel
theorem dX10_requireSlot_5 : decode cX10_requireSlot 5 = .ok (.aload_n 0, 1) := by decide +kernel
theorem dX10_requireSlot_6 : decode cX10_requireSlot 6 = .ok (.getfield 12, 3) := by decide +kernel
theorem dX10_requireSlot_9 : decode cX10_requireSlot 9 = .ok (.getfield 117, 3) := by decide +kernel
theorem dX10_requireSlot_12 : decode cX10_requireSlot 12 = .ok (.getfield 121, 3) := by decide +kernel
theorem dX10_requireSlot_15 : decode cX10_requireSlot 15 = .ok (.if_icmp .lt 14, 3) := by decide +kernel
theorem dX10_requireSlot_18 : decode cX10_requireSlot 18 = .ok (.new 177, 3) := by decide +kernel
theorem dX10_requireSlot_21 : decode cX10_requireSlot 21 = .ok (.dup, 1) := by decide +kernel
theorem dX10_requireSlot_22 : decode cX10_requireSlot 22 = .ok (.ldc_w 418, 3) := by decide +kernel
theorem dX10_requireSlot_25 : decode cX10_requireSlot 25 = .ok (.invokespecial 181, 3) := by decide +kernel
theorem dX10_requireSlot_28 : decode cX10_requireSlot 28 = .ok (.athrow, 1) := by decide +kernel
theorem dX10_requireSlot_29 : decode cX10_requireSlot 29 = .ok (.return_, 1) := by decide +kernel
set_option maxRecDepth 100000 in
theorem ggX10_requireDivision_X10_refresh : GoodIn wsX10_requireDivision wsX10_refresh := goodIn_r _ [9, 10, 3, 11, 12, 13, 14, 15, 16, 17, 18, 19, 20, 21, 22, 23, 24, 25, 26, 27, 28, 29, 30, 31, 32, 33, 34, 35, 36, 37, 38, 39, 40, 41, 42, 43, 44, 45, 46, 47, 48, 49, 50, 51, 52, 53, 54, 55, 56, 57, 58, 59, 60, 61, 62, 63, 64, 65, 66, 67, 8, 68, 69, 70, 71, 72, 73, 74, 75, 76, 77, 78, 79, 80, 81, 82, 83, 84, 85, 86, 87, 88, 89, 90, 91, 92, 93, 94, 95, 96, 97, 98, 99, 100, 101, 102, 103, 104, 105, 106, 107, 108, 109, 110, 111, 112, 113, 114, 115, 116, 117, 118, 119, 120, 121, 122, 123, 124, 125, 126, 127, 128, 129, 130, 131, 132, 133, 134, 135, 136, 137, 138, 139, 140, 141, 142, 143, 144, 145, 146, 147, 148, 149, 150, 151, 152, 153, 154, 155, 156, 157, 158, 159, 160, 161, 162, 163, 164, 165, 166, 167, 168, 169, 170, 171, 172, 173, 174, 175, 176, 177, 193, 194, 195, 196, 197, 198, 199, 200, 201, 202, 203, 204, 178, 179, 180, 181, 182, 183, 184, 185, 186, 187, 188, 189, 190, 191, 192, 205, 206, 207, 208, 209, 210, 211, 212, 213, 214, 215, 216] rfl (by decide +kernel)
set_option maxRecDepth 100000 in
theorem gX10_requireDivision_X10_refresh : GoodIn wsX10_requireDivision (wsV RX10 168 RX10 yX10_refresh wsX10_refresh) := goodIn_app (goodIn_of _ (by decide +kernel)) ggX10_requireDivision_X10_refresh
theorem dX10_requireDivision_0 : decode cX10_requireDivision 0 = .ok (.aload_n 0, 1) := by decide +kernel
theorem dX10_requireDivision_1 : decode cX10_requireDivision 1 = .ok (.invokevirtual 168, 3) := by decide +kernel
theorem dX10_requireDivision_4 : decode cX10_requireDivision 4 = .ok (.aload_n 0, 1) := by decide +kernel
theorem dX10_requireDivision_5 : decode cX10_requireDivision 5 = .ok (.getfield 33, 3) := by decide +kernel
theorem dX10_requireDivision_8 : decode cX10_requireDivision 8 = .ok (.getfield 227, 3) := by decide +kernel
theorem dX10_requireDivision_11 : decode cX10_requireDivision 11 = .ok (.ifCond .ne 14, 3) := by decide +kernel
theorem dX10_requireDivision_14 : decode cX10_requireDivision 14 = .ok (.new 274, 3) := by decide +kernel
theorem dX10_requireDivision_17 : decode cX10_requireDivision 17 = .ok (.dup, 1) := by decide +kernel
theorem dX10_requireDivision_18 : decode cX10_requireDivision 18 = .ok (.ldc_w 420, 3) := by decide +kernel
theorem dX10_requireDivision_21 : decode cX10_requireDivision 21 = .ok (.invokespecial 278, 3) := by decide +kernel
theorem dX10_requireDivision_24 : decode cX10_requireDivision 24 = .ok (.athrow, 1) := by decide +kernel
theorem dX10_requireDivision_25 : decode cX10_requireDivision 25 = .ok (.return_, 1) := by decide +kernel
theorem dX10_requireChapter_0 : decode cX10_requireChapter 0 = .ok (.iload_n 1, 1) := by decide +kernel
theorem dX10_requireChapter_1 : decode cX10_requireChapter 1 = .ok (.ifCond .lt 14, 3) := by decide +kernel
theorem dX10_requireChapter_4 : decode cX10_requireChapter 4 = .ok (.iload_n 1, 1) := by decide +kernel
theorem dX10_requireChapter_5 : decode cX10_requireChapter 5 = .ok (.aload_n 0, 1) := by decide +kernel
theorem dX10_requireChapter_6 : decode cX10_requireChapter 6 = .ok (.getfield 33, 3) := by decide +kernel
theorem dX10_requireChapter_9 : decode cX10_requireChapter 9 = .ok (.getfield 227, 3) := by decide +kernel
theorem dX10_requireChapter_12 : decode cX10_requireChapter 12 = .ok (.if_icmp .lt 14, 3) := by decide +kernel
theorem dX10_requireChapter_15 : decode cX10_requireChapter 15 = .ok (.new 177, 3) := by decide +kernel
theorem dX10_requireChapter_18 : decode cX10_requireChapter 18 = .ok (.dup, 1) := by decide +kernel
theorem dX10_requireChapter_19 : decode cX10_requireChapter 19 = .ok (.ldc_w 422, 3) := by decide +kernel
theorem dX10_requireChapter_22 : decode cX10_requireChapter 22 = .ok (.invokespecial 181, 3) := by decide +kernel
theorem dX10_requireChapter_25 : decode cX10_requireChapter 25 = .ok (.athrow, 1) := by decide +kernel
theorem dX10_requireChapter_26 : decode cX10_requireChapter 26 = .ok (.return_, 1) := by decide +kernel
theorem dX10_requireRange_0 : decode cX10_requireRange 0 = .ok (.iload_n 1, 1) := by decide +kernel
theorem dX10_requireRange_1 : decode cX10_requireRange 1 = .ok (.iload_n 2, 1) := by decide +kernel
theorem dX10_requireRange_2 : decode cX10_requireRange 2 = .ok (.if_icmp .lt 8, 3) := by decide +kernel
theorem dX10_requireRange_5 : decode cX10_requireRange 5 = .ok (.iload_n 1, 1) := by decide +kernel
theorem dX10_requireRange_6 : decode cX10_requireRange 6 = .ok (.iload_n 3, 1) := by decide +kernel
theorem dX10_requireRange_7 : decode cX10_requireRange 7 = .ok (.if_icmp .le 14, 3) := by decide +kernel
theorem dX10_requireRange_10 : decode cX10_requireRange 10 = .ok (.new 81, 3) := by decide +kernel
theorem dX10_requireRange_13 : decode cX10_requireRange 13 = .ok (.dup, 1) := by decide +kernel
theorem dX10_requireRange_14 : decode cX10_requireRange 14 = .ok (.ldc_w 424, 3) := by decide +kernel
theorem dX10_requireRange_17 : decode cX10_requireRange 17 = .ok (.invokespecial 85, 3) := by decide +kernel
theorem dX10_requireRange_20 : decode cX10_requireRange 20 = .ok (.athrow, 1) := by decide +kernel
theorem dX10_requireRange_21 : decode cX10_requireRange 21 = .ok (.return_, 1) := by decide +kernel
set_option maxRecDepth 100000 in
theorem ggX10_requireCuts_X9_boundaryCount : GoodIn wsX10_requireCuts wsX9_boundaryCount := goodIn_r _ [9, 10, 23, 24, 25, 26, 27, 28, 29, 30] rfl (by decide +kernel)
set_option maxRecDepth 100000 in
theorem gX10_requireCuts_X9_boundaryCount : GoodIn wsX10_requireCuts (wsV RX10 411 RX9 yX9_boundaryCount wsX9_boundaryCount) := goodIn_app (goodIn_of _ (by decide +kernel)) ggX10_requireCuts_X9_boundaryCount
theorem dX10_requireCuts_0 : decode cX10_requireCuts 0 = .ok (.iload_n 1, 1) := by decide +kernel
theorem dX10_requireCuts_1 : decode cX10_requireCuts 1 = .ok (.ifCond .lt 18, 3) := by decide +kernel
theorem dX10_requireCuts_4 : decode cX10_requireCuts 4 = .ok (.iload_n 1, 1) := by decide +kernel
theorem dX10_requireCuts_5 : decode cX10_requireCuts 5 = .ok (.aload_n 0, 1) := by decide +kernel
theorem dX10_requireCuts_6 : decode cX10_requireCuts 6 = .ok (.getfield 12, 3) := by decide +kernel
theorem dX10_requireCuts_9 : decode cX10_requireCuts 9 = .ok (.getfield 102, 3) := by decide +kernel
theorem dX10_requireCuts_12 : decode cX10_requireCuts 12 = .ok (.invokevirtual 411, 3) := by decide +kernel
theorem dX10_requireCuts_15 : decode cX10_requireCuts 15 = .ok (.iushr, 1) := by decide +kernel
theorem dX10_requireCuts_16 : decode cX10_requireCuts 16 = .ok (.ifCond .eq 14, 3) := by decide +kernel
theorem dX10_requireCuts_19 : decode cX10_requireCuts 19 = .ok (.new 81, 3) := by decide +kernel
theorem dX10_requireCuts_22 : decode cX10_requireCuts 22 = .ok (.dup, 1) := by decide +kernel
theorem dX10_requireCuts_23 : decode cX10_requireCuts 23 = .ok (.ldc_w 426, 3) := by decide +kernel
theorem dX10_requireCuts_26 : decode cX10_requireCuts 26 = .ok (.invokespecial 85, 3) := by decide +kernel
theorem dX10_requireCuts_29 : decode cX10_requireCuts 29 = .ok (.athrow, 1) := by decide +kernel
theorem dX10_requireCuts_30 : decode cX10_requireCuts 30 = .ok (.return_, 1) := by decide +kernel
theorem dX10_percentAlike_0 : decode cX10_percentAlike 0 = .ok (.iconst 0, 1) := by decide +kernel
theorem dX10_percentAlike_1 : decode cX10_percentAlike 1 = .ok (.istore 4, 2) := by decide +kernel
theorem dX10_percentAlike_3 : decode cX10_percentAlike 3 = .ok (.iconst 0, 1) := by decide +kernel
theorem dX10_percentAlike_4 : decode cX10_percentAlike 4 = .ok (.istore 5, 2) := by decide +kernel
theorem dX10_percentAlike_6 : decode cX10_percentAlike 6 = .ok (.iconst 0, 1) := by decide +kernel
theorem dX10_percentAlike_7 : decode cX10_percentAlike 7 = .ok (.istore 6, 2) := by decide +kernel
theorem dX10_percentAlike_9 : decode cX10_percentAlike 9 = .ok (.iload 6, 2) := by decide +kernel
theorem dX10_percentAlike_11 : decode cX10_percentAlike 11 = .ok (.bipush 24, 2) := by decide +kernel
theorem dX10_percentAlike_13 : decode cX10_percentAlike 13 = .ok (.if_icmp .ge 49, 3) := by decide +kernel
theorem dX10_percentAlike_16 : decode cX10_percentAlike 16 = .ok (.aload_n 0, 1) := by decide +kernel
theorem dX10_percentAlike_17 : decode cX10_percentAlike 17 = .ok (.iload_n 1, 1) := by decide +kernel
theorem dX10_percentAlike_18 : decode cX10_percentAlike 18 = .ok (.iload 6, 2) := by decide +kernel
theorem dX10_percentAlike_20 : decode cX10_percentAlike 20 = .ok (.iadd, 1) := by decide +kernel
theorem dX10_percentAlike_21 : decode cX10_percentAlike 21 = .ok (.iaload, 1) := by decide +kernel
theorem dX10_percentAlike_22 : decode cX10_percentAlike 22 = .ok (.istore 7, 2) := by decide +kernel
theorem dX10_percentAlike_24 : decode cX10_percentAlike 24 = .ok (.aload_n 2, 1) := by decide +kernel
theorem dX10_percentAlike_25 : decode cX10_percentAlike 25 = .ok (.iload_n 3, 1) := by decide +kernel
theorem dX10_percentAlike_26 : decode cX10_percentAlike 26 = .ok (.iload 6, 2) := by decide +kernel
theorem dX10_percentAlike_28 : decode cX10_percentAlike 28 = .ok (.iadd, 1) := by decide +kernel
theorem dX10_percentAlike_29 : decode cX10_percentAlike 29 = .ok (.iaload, 1) := by decide +kernel
theorem dX10_percentAlike_30 : decode cX10_percentAlike 30 = .ok (.istore 8, 2) := by decide +kernel
theorem dX10_percentAlike_32 : decode cX10_percentAlike 32 = .ok (.iload 4, 2) := by decide +kernel
theorem dX10_percentAlike_34 : decode cX10_percentAlike 34 = .ok (.iload 7, 2) := by decide +kernel
theorem dX10_percentAlike_36 : decode cX10_percentAlike 36 = .ok (.iload 8, 2) := by decide +kernel
theorem dX10_percentAlike_38 : decode cX10_percentAlike 38 = .ok (.invokestatic 428, 3) := by decide +kernel
theorem dX10_percentAlike_41 : decode cX10_percentAlike 41 = .ok (.iadd, 1) := by decide +kernel
theorem dX10_percentAlike_42 : decode cX10_percentAlike 42 = .ok (.istore 4, 2) := by decide +kernel
theorem dX10_percentAlike_44 : decode cX10_percentAlike 44 = .ok (.iload 5, 2) := by decide +kernel
theorem dX10_percentAlike_46 : decode cX10_percentAlike 46 = .ok (.iload 7, 2) := by decide +kernel
theorem dX10_percentAlike_48 : decode cX10_percentAlike 48 = .ok (.iload 8, 2) := by decide +kernel
theorem dX10_percentAlike_50 : decode cX10_percentAlike 50 = .ok (.invokestatic 433, 3) := by decide +kernel
theorem dX10_percentAlike_53 : decode cX10_percentAlike 53 = .ok (.iadd, 1) := by decide +kernel
theorem dX10_percentAlike_54 : decode cX10_percentAlike 54 = .ok (.istore 5, 2) := by decide +kernel
theorem dX10_percentAlike_56 : decode cX10_percentAlike 56 = .ok (.iinc 6 1, 3) := by decide +kernel
theorem dX10_percentAlike_59 : decode cX10_percentAlike 59 = .ok (.goto (-50), 3) := by decide +kernel
theorem dX10_percentAlike_62 : decode cX10_percentAlike 62 = .ok (.iload 5, 2) := by decide +kernel
theorem dX10_percentAlike_64 : decode cX10_percentAlike 64 = .ok (.ifCond .ne 7, 3) := by decide +kernel
theorem dX10_percentAlike_67 : decode cX10_percentAlike 67 = .ok (.iconst 0, 1) := by decide +kernel
theorem dX10_percentAlike_68 : decode cX10_percentAlike 68 = .ok (.goto 11, 3) := by decide +kernel
theorem dX10_percentAlike_71 : decode cX10_percentAlike 71 = .ok (.bipush 100, 2) := by decide +kernel
theorem dX10_percentAlike_73 : decode cX10_percentAlike 73 = .ok (.iload 4, 2) := by decide +kernel
theorem dX10_percentAlike_75 : decode cX10_percentAlike 75 = .ok (.imul, 1) := by decide +kernel
theorem dX10_percentAlike_76 : decode cX10_percentAlike 76 = .ok (.iload 5, 2) := by decide +kernel
theorem dX10_percentAlike_78 : decode cX10_percentAlike 78 = .ok (.idiv, 1) := by decide +kernel
theorem dX10_percentAlike_79 : decode cX10_percentAlike 79 = .ok (.ireturn, 1) := by decide +kernel
