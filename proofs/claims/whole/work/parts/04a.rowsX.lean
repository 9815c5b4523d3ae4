theorem dX0_init_0 : decode cX0_init 0 = .ok (.aload_n 0, 1) := by decide +kernel
theorem dX0_init_1 : decode cX0_init 1 = .ok (.invokespecial 3, 3) := by decide +kernel
theorem dX0_init_4 : decode cX0_init 4 = .ok (.aload_n 0, 1) := by decide +kernel
theorem dX0_init_5 : decode cX0_init 5 = .ok (.bipush 31, 2) := by decide +kernel
theorem dX0_init_7 : decode cX0_init 7 = .ok (.newarray .int, 2) := by decide +kernel
theorem dX0_init_9 : decode cX0_init 9 = .ok (.putfield 9, 3) := by decide +kernel
theorem dX0_init_12 : decode cX0_init 12 = .ok (.aload_n 0, 1) := by decide +kernel
theorem dX0_init_13 : decode cX0_init 13 = .ok (.bipush 32, 2) := by decide +kernel
theorem dX0_init_15 : decode cX0_init 15 = .ok (.newarray .int, 2) := by decide +kernel
theorem dX0_init_17 : decode cX0_init 17 = .ok (.putfield 15, 3) := by decide +kernel
theorem dX0_init_20 : decode cX0_init 20 = .ok (.aload_n 0, 1) := by decide +kernel
theorem dX0_init_21 : decode cX0_init 21 = .ok (.bipush 32, 2) := by decide +kernel
theorem dX0_init_23 : decode cX0_init 23 = .ok (.newarray .int, 2) := by decide +kernel
theorem dX0_init_25 : decode cX0_init 25 = .ok (.putfield 18, 3) := by decide +kernel
theorem dX0_init_28 : decode cX0_init 28 = .ok (.aload_n 0, 1) := by decide +kernel
theorem dX0_init_29 : decode cX0_init 29 = .ok (.bipush 32, 2) := by decide +kernel
theorem dX0_init_31 : decode cX0_init 31 = .ok (.newarray .int, 2) := by decide +kernel
theorem dX0_init_33 : decode cX0_init 33 = .ok (.putfield 21, 3) := by decide +kernel
theorem dX0_init_36 : decode cX0_init 36 = .ok (.aload_n 0, 1) := by decide +kernel
theorem dX0_init_37 : decode cX0_init 37 = .ok (.bipush 32, 2) := by decide +kernel
theorem dX0_init_39 : decode cX0_init 39 = .ok (.newarray .int, 2) := by decide +kernel
theorem dX0_init_41 : decode cX0_init 41 = .ok (.putfield 24, 3) := by decide +kernel
theorem dX0_init_44 : decode cX0_init 44 = .ok (.aload_n 0, 1) := by decide +kernel
theorem dX0_init_45 : decode cX0_init 45 = .ok (.bipush 32, 2) := by decide +kernel
theorem dX0_init_47 : decode cX0_init 47 = .ok (.newarray .int, 2) := by decide +kernel
theorem dX0_init_49 : decode cX0_init 49 = .ok (.putfield 27, 3) := by decide +kernel
theorem dX0_init_52 : decode cX0_init 52 = .ok (.aload_n 0, 1) := by decide +kernel
theorem dX0_init_53 : decode cX0_init 53 = .ok (.bipush 33, 2) := by decide +kernel
theorem dX0_init_55 : decode cX0_init 55 = .ok (.newarray .int, 2) := by decide +kernel
theorem dX0_init_57 : decode cX0_init 57 = .ok (.putfield 30, 3) := by decide +kernel
theorem dX0_init_60 : decode cX0_init 60 = .ok (.aload_n 0, 1) := by decide +kernel
theorem dX0_init_61 : decode cX0_init 61 = .ok (.bipush 33, 2) := by decide +kernel
theorem dX0_init_63 : decode cX0_init 63 = .ok (.newarray .long, 2) := by decide +kernel
theorem dX0_init_65 : decode cX0_init 65 = .ok (.putfield 33, 3) := by decide +kernel
theorem dX0_init_68 : decode cX0_init 68 = .ok (.aload_n 0, 1) := by decide +kernel
theorem dX0_init_69 : decode cX0_init 69 = .ok (.bipush 24, 2) := by decide +kernel
theorem dX0_init_71 : decode cX0_init 71 = .ok (.newarray .int, 2) := by decide +kernel
theorem dX0_init_73 : decode cX0_init 73 = .ok (.putfield 37, 3) := by decide +kernel
theorem dX0_init_76 : decode cX0_init 76 = .ok (.aload_n 0, 1) := by decide +kernel
theorem dX0_init_77 : decode cX0_init 77 = .ok (.bipush 24, 2) := by decide +kernel
theorem dX0_init_79 : decode cX0_init 79 = .ok (.newarray .int, 2) := by decide +kernel
theorem dX0_init_81 : decode cX0_init 81 = .ok (.putfield 40, 3) := by decide +kernel
theorem dX0_init_84 : decode cX0_init 84 = .ok (.return_, 1) := by decide +kernel
set_option maxRecDepth 100000 in
theorem ggX0_update_X9_durationOf : GoodIn wsX0_update wsX9_durationOf := goodIn_r _ [14, 15, 16, 84, 85, 86, 87, 88, 89, 90, 91] rfl (by decide +kernel)
set_option maxRecDepth 100000 in
theorem gX0_update_X9_durationOf : GoodIn wsX0_update (wsV RX0 65 RX9 yX9_durationOf wsX9_durationOf) := goodIn_app (goodIn_of _ (by decide +kernel)) ggX0_update_X9_durationOf
set_option maxRecDepth 100000 in
theorem ggX0_update_X0_windowLikeness : GoodIn wsX0_update wsX0_windowLikeness := goodIn_r _ [21, 22, 23, 24, 25, 26, 27, 3, 28, 29, 30, 31, 32, 33, 34, 35, 36, 37, 13, 38, 39, 40, 41, 42, 43, 16, 44, 45, 46, 47, 48, 49, 50, 51, 52, 53, 92, 93, 94, 95, 96, 97, 98, 99, 100, 101, 102, 103, 104, 105, 106, 84, 85, 86, 87, 88, 89, 90, 91] rfl (by decide +kernel)
set_option maxRecDepth 100000 in
theorem gX0_update_X0_windowLikeness : GoodIn wsX0_update (wsV RX0 69 RX0 yX0_windowLikeness wsX0_windowLikeness) := goodIn_app (goodIn_of _ (by decide +kernel)) ggX0_update_X0_windowLikeness
set_option maxRecDepth 100000 in
theorem ggX0_update_X0_solve : GoodIn wsX0_update wsX0_solve := goodIn_r _ [57, 3, 58, 59, 60, 61, 20, 62, 5, 6, 63, 64, 65, 66, 7, 67, 68, 69, 70, 8, 71, 72, 92, 93, 94, 95, 96, 97, 98, 99, 100, 101, 102, 103, 104, 105, 106] rfl (by decide +kernel)
set_option maxRecDepth 100000 in
theorem gX0_update_X0_solve : GoodIn wsX0_update (wsV RX0 76 RX0 yX0_solve wsX0_solve) := goodIn_app (goodIn_of _ (by decide +kernel)) ggX0_update_X0_solve
set_option maxRecDepth 100000 in
theorem ggX0_update_X0_takeBest : GoodIn wsX0_update wsX0_takeBest := goodIn_r _ [76, 71, 77, 3, 78, 9, 58, 79, 92, 93, 94, 95, 96, 97, 98, 99, 100, 101, 102, 103, 104, 105, 106] rfl (by decide +kernel)
set_option maxRecDepth 100000 in
theorem gX0_update_X0_takeBest : GoodIn wsX0_update (wsV RX0 80 RX0 yX0_takeBest wsX0_takeBest) := goodIn_app (goodIn_of _ (by decide +kernel)) ggX0_update_X0_takeBest
theorem dX0_update_0 : decode cX0_update 0 = .ok (.aload_n 0, 1) := by decide +kernel
theorem dX0_update_1 : decode cX0_update 1 = .ok (.aload_n 1, 1) := by decide +kernel
theorem dX0_update_2 : decode cX0_update 2 = .ok (.getfield 43, 3) := by decide +kernel
theorem dX0_update_5 : decode cX0_update 5 = .ok (.getfield 49, 3) := by decide +kernel
theorem dX0_update_8 : decode cX0_update 8 = .ok (.putfield 55, 3) := by decide +kernel
theorem dX0_update_11 : decode cX0_update 11 = .ok (.aload_n 0, 1) := by decide +kernel
theorem dX0_update_12 : decode cX0_update 12 = .ok (.aload_n 1, 1) := by decide +kernel
theorem dX0_update_13 : decode cX0_update 13 = .ok (.getfield 56, 3) := by decide +kernel
theorem dX0_update_16 : decode cX0_update 16 = .ok (.iconst 0, 1) := by decide +kernel
theorem dX0_update_17 : decode cX0_update 17 = .ok (.iaload, 1) := by decide +kernel
theorem dX0_update_18 : decode cX0_update 18 = .ok (.putfield 59, 3) := by decide +kernel
theorem dX0_update_21 : decode cX0_update 21 = .ok (.aload_n 0, 1) := by decide +kernel
theorem dX0_update_22 : decode cX0_update 22 = .ok (.aload_n 1, 1) := by decide +kernel
theorem dX0_update_23 : decode cX0_update 23 = .ok (.getfield 56, 3) := by decide +kernel
theorem dX0_update_26 : decode cX0_update 26 = .ok (.iconst 1, 1) := by decide +kernel
theorem dX0_update_27 : decode cX0_update 27 = .ok (.iaload, 1) := by decide +kernel
theorem dX0_update_28 : decode cX0_update 28 = .ok (.putfield 62, 3) := by decide +kernel
theorem dX0_update_31 : decode cX0_update 31 = .ok (.aload_n 0, 1) := by decide +kernel
theorem dX0_update_32 : decode cX0_update 32 = .ok (.getfield 30, 3) := by decide +kernel
theorem dX0_update_35 : decode cX0_update 35 = .ok (.iconst 0, 1) := by decide +kernel
theorem dX0_update_36 : decode cX0_update 36 = .ok (.iconst 0, 1) := by decide +kernel
theorem dX0_update_37 : decode cX0_update 37 = .ok (.iastore, 1) := by decide +kernel
theorem dX0_update_38 : decode cX0_update 38 = .ok (.iconst 0, 1) := by decide +kernel
theorem dX0_update_39 : decode cX0_update 39 = .ok (.istore_n 2, 1) := by decide +kernel
theorem dX0_update_40 : decode cX0_update 40 = .ok (.iload_n 2, 1) := by decide +kernel
theorem dX0_update_41 : decode cX0_update 41 = .ok (.aload_n 0, 1) := by decide +kernel
theorem dX0_update_42 : decode cX0_update 42 = .ok (.getfield 55, 3) := by decide +kernel
theorem dX0_update_45 : decode cX0_update 45 = .ok (.if_icmp .ge 32, 3) := by decide +kernel
theorem dX0_update_48 : decode cX0_update 48 = .ok (.aload_n 0, 1) := by decide +kernel
theorem dX0_update_49 : decode cX0_update 49 = .ok (.getfield 30, 3) := by decide +kernel
theorem dX0_update_52 : decode cX0_update 52 = .ok (.iload_n 2, 1) := by decide +kernel
theorem dX0_update_53 : decode cX0_update 53 = .ok (.iconst 1, 1) := by decide +kernel
theorem dX0_update_54 : decode cX0_update 54 = .ok (.iadd, 1) := by decide +kernel
theorem dX0_update_55 : decode cX0_update 55 = .ok (.aload_n 0, 1) := by decide +kernel
theorem dX0_update_56 : decode cX0_update 56 = .ok (.getfield 30, 3) := by decide +kernel
theorem dX0_update_59 : decode cX0_update 59 = .ok (.iload_n 2, 1) := by decide +kernel
theorem dX0_update_60 : decode cX0_update 60 = .ok (.iaload, 1) := by decide +kernel
theorem dX0_update_61 : decode cX0_update 61 = .ok (.aload_n 1, 1) := by decide +kernel
theorem dX0_update_62 : decode cX0_update 62 = .ok (.getfield 43, 3) := by decide +kernel
theorem dX0_update_65 : decode cX0_update 65 = .ok (.iload_n 2, 1) := by decide +kernel
theorem dX0_update_66 : decode cX0_update 66 = .ok (.invokevirtual 65, 3) := by decide +kernel
theorem dX0_update_69 : decode cX0_update 69 = .ok (.iadd, 1) := by decide +kernel
theorem dX0_update_70 : decode cX0_update 70 = .ok (.iastore, 1) := by decide +kernel
theorem dX0_update_71 : decode cX0_update 71 = .ok (.iinc 2 1, 3) := by decide +kernel
theorem dX0_update_74 : decode cX0_update 74 = .ok (.goto (-34), 3) := by decide +kernel
theorem dX0_update_77 : decode cX0_update 77 = .ok (.iconst 0, 1) := by decide +kernel
theorem dX0_update_78 : decode cX0_update 78 = .ok (.istore_n 2, 1) := by decide +kernel
theorem dX0_update_79 : decode cX0_update 79 = .ok (.iload_n 2, 1) := by decide +kernel
theorem dX0_update_80 : decode cX0_update 80 = .ok (.aload_n 0, 1) := by decide +kernel
theorem dX0_update_81 : decode cX0_update 81 = .ok (.getfield 55, 3) := by decide +kernel
theorem dX0_update_84 : decode cX0_update 84 = .ok (.iconst 1, 1) := by decide +kernel
theorem dX0_update_85 : decode cX0_update 85 = .ok (.isub, 1) := by decide +kernel
theorem dX0_update_86 : decode cX0_update 86 = .ok (.if_icmp .ge 33, 3) := by decide +kernel
theorem dX0_update_89 : decode cX0_update 89 = .ok (.aload_n 0, 1) := by decide +kernel
theorem dX0_update_90 : decode cX0_update 90 = .ok (.getfield 9, 3) := by decide +kernel
theorem dX0_update_93 : decode cX0_update 93 = .ok (.iload_n 2, 1) := by decide +kernel
theorem dX0_update_94 : decode cX0_update 94 = .ok (.bipush 100, 2) := by decide +kernel
theorem dX0_update_96 : decode cX0_update 96 = .ok (.aload_n 0, 1) := by decide +kernel
theorem dX0_update_97 : decode cX0_update 97 = .ok (.aload_n 1, 1) := by decide +kernel
theorem dX0_update_98 : decode cX0_update 98 = .ok (.getfield 43, 3) := by decide +kernel
theorem dX0_update_101 : decode cX0_update 101 = .ok (.iload_n 2, 1) := by decide +kernel
theorem dX0_update_102 : decode cX0_update 102 = .ok (.aload_n 1, 1) := by decide +kernel
theorem dX0_update_103 : decode cX0_update 103 = .ok (.getfield 56, 3) := by decide +kernel
theorem dX0_update_106 : decode cX0_update 106 = .ok (.iconst 2, 1) := by decide +kernel
theorem dX0_update_107 : decode cX0_update 107 = .ok (.iaload, 1) := by decide +kernel
theorem dX0_update_108 : decode cX0_update 108 = .ok (.invokevirtual 69, 3) := by decide +kernel
theorem dX0_update_111 : decode cX0_update 111 = .ok (.isub, 1) := by decide +kernel
theorem dX0_update_112 : decode cX0_update 112 = .ok (.iastore, 1) := by decide +kernel
theorem dX0_update_113 : decode cX0_update 113 = .ok (.iinc 2 1, 3) := by decide +kernel
theorem dX0_update_116 : decode cX0_update 116 = .ok (.goto (-37), 3) := by decide +kernel
theorem dX0_update_119 : decode cX0_update 119 = .ok (.aload_n 0, 1) := by decide +kernel
theorem dX0_update_120 : decode cX0_update 120 = .ok (.iconst 0, 1) := by decide +kernel
theorem dX0_update_121 : decode cX0_update 121 = .ok (.putfield 73, 3) := by decide +kernel
theorem dX0_update_124 : decode cX0_update 124 = .ok (.aload_n 0, 1) := by decide +kernel
theorem dX0_update_125 : decode cX0_update 125 = .ok (.aload_n 1, 1) := by decide +kernel
theorem dX0_update_126 : decode cX0_update 126 = .ok (.getfield 56, 3) := by decide +kernel
theorem dX0_update_129 : decode cX0_update 129 = .ok (.iconst 3, 1) := by decide +kernel
theorem dX0_update_130 : decode cX0_update 130 = .ok (.iaload, 1) := by decide +kernel
theorem dX0_update_131 : decode cX0_update 131 = .ok (.iconst (-1), 1) := by decide +kernel
theorem dX0_update_132 : decode cX0_update 132 = .ok (.iconst (-1), 1) := by decide +kernel
theorem dX0_update_133 : decode cX0_update 133 = .ok (.invokevirtual 76, 3) := by decide +kernel
theorem dX0_update_136 : decode cX0_update 136 = .ok (.ifCond .eq 7, 3) := by decide +kernel
theorem dX0_update_139 : decode cX0_update 139 = .ok (.aload_n 0, 1) := by decide +kernel
theorem dX0_update_140 : decode cX0_update 140 = .ok (.invokevirtual 80, 3) := by decide +kernel
theorem dX0_update_143 : decode cX0_update 143 = .ok (.return_, 1) := by decide +kernel
set_option maxRecDepth 100000 in
theorem ggX0_windowLikeness_J7_fill_53178 : GoodIn wsX0_windowLikeness wsJ7_fill_53178 := goodIn_r _ [14] rfl (by decide +kernel)
set_option maxRecDepth 100000 in
theorem gX0_windowLikeness_J7_fill_53178 : GoodIn wsX0_windowLikeness (va_wsS RX0 83 yJ7_fill_53178 wsJ7_fill_53178) := goodIn_app (goodIn_of _ (by decide +kernel)) ggX0_windowLikeness_J7_fill_53178
set_option maxRecDepth 100000 in
theorem ggX0_windowLikeness_X9_tally : GoodIn wsX0_windowLikeness wsX9_tally := goodIn_r _ [19, 20, 21, 22, 18, 23, 24, 25, 26, 27, 28, 29, 30, 51, 52, 53, 54, 55, 56, 57, 58] rfl (by decide +kernel)
set_option maxRecDepth 100000 in
theorem gX0_windowLikeness_X9_tally : GoodIn wsX0_windowLikeness (wsV RX0 95 RX9 yX9_tally wsX9_tally) := goodIn_app (goodIn_of _ (by decide +kernel)) ggX0_windowLikeness_X9_tally
set_option maxRecDepth 100000 in
theorem ggX0_windowLikeness_X10_percentAlike : GoodIn wsX0_windowLikeness wsX10_percentAlike := goodIn_r _ [33, 34, 9, 5, 10, 35, 4, 6] rfl (by decide +kernel)
set_option maxRecDepth 100000 in
theorem gX0_windowLikeness_X10_percentAlike_n102 : GoodIn wsX0_windowLikeness (wsX10_percentAlike) := ggX0_windowLikeness_X10_percentAlike
theorem dX0_windowLikeness_0 : decode cX0_windowLikeness 0 = .ok (.aload_n 0, 1) := by decide +kernel
theorem dX0_windowLikeness_1 : decode cX0_windowLikeness 1 = .ok (.getfield 37, 3) := by decide +kernel
theorem dX0_windowLikeness_4 : decode cX0_windowLikeness 4 = .ok (.iconst 0, 1) := by decide +kernel
theorem dX0_windowLikeness_5 : decode cX0_windowLikeness 5 = .ok (.invokestatic 83, 3) := by decide +kernel
theorem dX0_windowLikeness_8 : decode cX0_windowLikeness 8 = .ok (.aload_n 0, 1) := by decide +kernel
theorem dX0_windowLikeness_9 : decode cX0_windowLikeness 9 = .ok (.getfield 40, 3) := by decide +kernel
theorem dX0_windowLikeness_12 : decode cX0_windowLikeness 12 = .ok (.iconst 0, 1) := by decide +kernel
theorem dX0_windowLikeness_13 : decode cX0_windowLikeness 13 = .ok (.invokestatic 83, 3) := by decide +kernel
theorem dX0_windowLikeness_16 : decode cX0_windowLikeness 16 = .ok (.aload_n 1, 1) := by decide +kernel
theorem dX0_windowLikeness_17 : decode cX0_windowLikeness 17 = .ok (.iconst 0, 1) := by decide +kernel
theorem dX0_windowLikeness_18 : decode cX0_windowLikeness 18 = .ok (.iload_n 2, 1) := by decide +kernel
theorem dX0_windowLikeness_19 : decode cX0_windowLikeness 19 = .ok (.iload_n 3, 1) := by decide +kernel
theorem dX0_windowLikeness_20 : decode cX0_windowLikeness 20 = .ok (.isub, 1) := by decide +kernel
theorem dX0_windowLikeness_21 : decode cX0_windowLikeness 21 = .ok (.iconst 1, 1) := by decide +kernel
theorem dX0_windowLikeness_22 : decode cX0_windowLikeness 22 = .ok (.iadd, 1) := by decide +kernel
theorem dX0_windowLikeness_23 : decode cX0_windowLikeness 23 = .ok (.invokestatic 89, 3) := by decide +kernel
theorem dX0_windowLikeness_26 : decode cX0_windowLikeness 26 = .ok (.iload_n 2, 1) := by decide +kernel
theorem dX0_windowLikeness_27 : decode cX0_windowLikeness 27 = .ok (.aload_n 0, 1) := by decide +kernel
theorem dX0_windowLikeness_28 : decode cX0_windowLikeness 28 = .ok (.getfield 37, 3) := by decide +kernel
theorem dX0_windowLikeness_31 : decode cX0_windowLikeness 31 = .ok (.iconst 0, 1) := by decide +kernel
theorem dX0_windowLikeness_32 : decode cX0_windowLikeness 32 = .ok (.invokevirtual 95, 3) := by decide +kernel
theorem dX0_windowLikeness_35 : decode cX0_windowLikeness 35 = .ok (.aload_n 1, 1) := by decide +kernel
theorem dX0_windowLikeness_36 : decode cX0_windowLikeness 36 = .ok (.iload_n 2, 1) := by decide +kernel
theorem dX0_windowLikeness_37 : decode cX0_windowLikeness 37 = .ok (.iconst 1, 1) := by decide +kernel
theorem dX0_windowLikeness_38 : decode cX0_windowLikeness 38 = .ok (.iadd, 1) := by decide +kernel
theorem dX0_windowLikeness_39 : decode cX0_windowLikeness 39 = .ok (.aload_n 0, 1) := by decide +kernel
theorem dX0_windowLikeness_40 : decode cX0_windowLikeness 40 = .ok (.getfield 55, 3) := by decide +kernel
theorem dX0_windowLikeness_43 : decode cX0_windowLikeness 43 = .ok (.iconst 1, 1) := by decide +kernel
theorem dX0_windowLikeness_44 : decode cX0_windowLikeness 44 = .ok (.isub, 1) := by decide +kernel
theorem dX0_windowLikeness_45 : decode cX0_windowLikeness 45 = .ok (.iload_n 2, 1) := by decide +kernel
theorem dX0_windowLikeness_46 : decode cX0_windowLikeness 46 = .ok (.iload_n 3, 1) := by decide +kernel
theorem dX0_windowLikeness_47 : decode cX0_windowLikeness 47 = .ok (.iadd, 1) := by decide +kernel
theorem dX0_windowLikeness_48 : decode cX0_windowLikeness 48 = .ok (.invokestatic 99, 3) := by decide +kernel
theorem dX0_windowLikeness_51 : decode cX0_windowLikeness 51 = .ok (.aload_n 0, 1) := by decide +kernel
theorem dX0_windowLikeness_52 : decode cX0_windowLikeness 52 = .ok (.getfield 40, 3) := by decide +kernel
theorem dX0_windowLikeness_55 : decode cX0_windowLikeness 55 = .ok (.iconst 0, 1) := by decide +kernel
theorem dX0_windowLikeness_56 : decode cX0_windowLikeness 56 = .ok (.invokevirtual 95, 3) := by decide +kernel
theorem dX0_windowLikeness_59 : decode cX0_windowLikeness 59 = .ok (.aload_n 0, 1) := by decide +kernel
theorem dX0_windowLikeness_60 : decode cX0_windowLikeness 60 = .ok (.getfield 37, 3) := by decide +kernel
theorem dX0_windowLikeness_63 : decode cX0_windowLikeness 63 = .ok (.iconst 0, 1) := by decide +kernel
theorem dX0_windowLikeness_64 : decode cX0_windowLikeness 64 = .ok (.aload_n 0, 1) := by decide +kernel
theorem dX0_windowLikeness_65 : decode cX0_windowLikeness 65 = .ok (.getfield 40, 3) := by decide +kernel
theorem dX0_windowLikeness_68 : decode cX0_windowLikeness 68 = .ok (.iconst 0, 1) := by decide +kernel
theorem dX0_windowLikeness_69 : decode cX0_windowLikeness 69 = .ok (.invokestatic 102, 3) := by decide +kernel
theorem dX0_windowLikeness_72 : decode cX0_windowLikeness 72 = .ok (.ireturn, 1) := by decide +kernel
set_option maxRecDepth 100000 in
theorem ggX0_solve_X0_isLongEnough : GoodIn wsX0_solve wsX0_isLongEnough := goodIn_r _ [7, 8, 9, 10, 11, 12, 6, 13, 14, 22, 23, 24, 25, 26, 27, 28, 29, 30, 31, 32, 33, 34, 35, 36] rfl (by decide +kernel)
set_option maxRecDepth 100000 in
theorem gX0_solve_X0_isLongEnough : GoodIn wsX0_solve (wsV RX0 106 RX0 yX0_isLongEnough wsX0_isLongEnough) := goodIn_app (goodIn_of _ (by decide +kernel)) ggX0_solve_X0_isLongEnough
set_option maxRecDepth 100000 in
theorem ggX0_solve_X0_consider : GoodIn wsX0_solve wsX0_consider := goodIn_r _ [18, 1, 2, 19, 20, 21, 22, 23, 24, 25, 26, 27, 28, 29, 30, 31, 32, 33, 34, 35, 36] rfl (by decide +kernel)
set_option maxRecDepth 100000 in
theorem gX0_solve_X0_consider : GoodIn wsX0_solve (wsV RX0 110 RX0 yX0_consider wsX0_consider) := goodIn_app (goodIn_of _ (by decide +kernel)) ggX0_solve_X0_consider
theorem dX0_solve_0 : decode cX0_solve 0 = .ok (.aload_n 0, 1) := by decide +kernel
theorem dX0_solve_1 : decode cX0_solve 1 = .ok (.getfield 55, 3) := by decide +kernel
theorem dX0_solve_4 : decode cX0_solve 4 = .ok (.iconst 1, 1) := by decide +kernel
theorem dX0_solve_5 : decode cX0_solve 5 = .ok (.isub, 1) := by decide +kernel
theorem dX0_solve_6 : decode cX0_solve 6 = .ok (.istore 4, 2) := by decide +kernel
theorem dX0_solve_8 : decode cX0_solve 8 = .ok (.iload 4, 2) := by decide +kernel
theorem dX0_solve_10 : decode cX0_solve 10 = .ok (.ifCond .lt 86, 3) := by decide +kernel
theorem dX0_solve_13 : decode cX0_solve 13 = .ok (.aload_n 0, 1) := by decide +kernel
theorem dX0_solve_14 : decode cX0_solve 14 = .ok (.getfield 27, 3) := by decide +kernel
theorem dX0_solve_17 : decode cX0_solve 17 = .ok (.iload 4, 2) := by decide +kernel
theorem dX0_solve_19 : decode cX0_solve 19 = .ok (.iconst (-1), 1) := by decide +kernel
theorem dX0_solve_20 : decode cX0_solve 20 = .ok (.iastore, 1) := by decide +kernel
theorem dX0_solve_21 : decode cX0_solve 21 = .ok (.iload 4, 2) := by decide +kernel
theorem dX0_solve_23 : decode cX0_solve 23 = .ok (.istore 5, 2) := by decide +kernel
theorem dX0_solve_25 : decode cX0_solve 25 = .ok (.iload 5, 2) := by decide +kernel
theorem dX0_solve_27 : decode cX0_solve 27 = .ok (.aload_n 0, 1) := by decide +kernel
theorem dX0_solve_28 : decode cX0_solve 28 = .ok (.getfield 55, 3) := by decide +kernel
theorem dX0_solve_31 : decode cX0_solve 31 = .ok (.if_icmp .ge 59, 3) := by decide +kernel
theorem dX0_solve_34 : decode cX0_solve 34 = .ok (.iload 4, 2) := by decide +kernel
theorem dX0_solve_36 : decode cX0_solve 36 = .ok (.iload_n 2, 1) := by decide +kernel
theorem dX0_solve_37 : decode cX0_solve 37 = .ok (.if_icmp .gt 13, 3) := by decide +kernel
theorem dX0_solve_40 : decode cX0_solve 40 = .ok (.iload_n 2, 1) := by decide +kernel
theorem dX0_solve_41 : decode cX0_solve 41 = .ok (.iload 5, 2) := by decide +kernel
theorem dX0_solve_43 : decode cX0_solve 43 = .ok (.if_icmp .ge 7, 3) := by decide +kernel
theorem dX0_solve_46 : decode cX0_solve 46 = .ok (.iconst 1, 1) := by decide +kernel
theorem dX0_solve_47 : decode cX0_solve 47 = .ok (.goto 4, 3) := by decide +kernel
theorem dX0_solve_50 : decode cX0_solve 50 = .ok (.iconst 0, 1) := by decide +kernel
theorem dX0_solve_51 : decode cX0_solve 51 = .ok (.istore 6, 2) := by decide +kernel
theorem dX0_solve_53 : decode cX0_solve 53 = .ok (.aload_n 0, 1) := by decide +kernel
theorem dX0_solve_54 : decode cX0_solve 54 = .ok (.iload 4, 2) := by decide +kernel
theorem dX0_solve_56 : decode cX0_solve 56 = .ok (.iload 5, 2) := by decide +kernel
theorem dX0_solve_58 : decode cX0_solve 58 = .ok (.invokevirtual 106, 3) := by decide +kernel
theorem dX0_solve_61 : decode cX0_solve 61 = .ok (.ifCond .eq 23, 3) := by decide +kernel
theorem dX0_solve_64 : decode cX0_solve 64 = .ok (.iload 6, 2) := by decide +kernel
theorem dX0_solve_66 : decode cX0_solve 66 = .ok (.ifCond .ne 18, 3) := by decide +kernel
theorem dX0_solve_69 : decode cX0_solve 69 = .ok (.iload 5, 2) := by decide +kernel
theorem dX0_solve_71 : decode cX0_solve 71 = .ok (.iload_n 3, 1) := by decide +kernel
theorem dX0_solve_72 : decode cX0_solve 72 = .ok (.if_icmp .eq 12, 3) := by decide +kernel
theorem dX0_solve_75 : decode cX0_solve 75 = .ok (.aload_n 0, 1) := by decide +kernel
theorem dX0_solve_76 : decode cX0_solve 76 = .ok (.iload 4, 2) := by decide +kernel
theorem dX0_solve_78 : decode cX0_solve 78 = .ok (.iload 5, 2) := by decide +kernel
theorem dX0_solve_80 : decode cX0_solve 80 = .ok (.iload_n 1, 1) := by decide +kernel
theorem dX0_solve_81 : decode cX0_solve 81 = .ok (.invokevirtual 110, 3) := by decide +kernel
theorem dX0_solve_84 : decode cX0_solve 84 = .ok (.iinc 5 1, 3) := by decide +kernel
theorem dX0_solve_87 : decode cX0_solve 87 = .ok (.goto (-62), 3) := by decide +kernel
theorem dX0_solve_90 : decode cX0_solve 90 = .ok (.iinc 4 (-1), 3) := by decide +kernel
theorem dX0_solve_93 : decode cX0_solve 93 = .ok (.goto (-85), 3) := by decide +kernel
theorem dX0_solve_96 : decode cX0_solve 96 = .ok (.aload_n 0, 1) := by decide +kernel
theorem dX0_solve_97 : decode cX0_solve 97 = .ok (.getfield 55, 3) := by decide +kernel
theorem dX0_solve_100 : decode cX0_solve 100 = .ok (.ifCond .le 17, 3) := by decide +kernel
theorem dX0_solve_103 : decode cX0_solve 103 = .ok (.aload_n 0, 1) := by decide +kernel
theorem dX0_solve_104 : decode cX0_solve 104 = .ok (.getfield 27, 3) := by decide +kernel
theorem dX0_solve_107 : decode cX0_solve 107 = .ok (.iconst 0, 1) := by decide +kernel
theorem dX0_solve_108 : decode cX0_solve 108 = .ok (.iaload, 1) := by decide +kernel
theorem dX0_solve_109 : decode cX0_solve 109 = .ok (.iconst (-1), 1) := by decide +kernel
theorem dX0_solve_110 : decode cX0_solve 110 = .ok (.if_icmp .eq 7, 3) := by decide +kernel
theorem dX0_solve_113 : decode cX0_solve 113 = .ok (.iconst 1, 1) := by decide +kernel
theorem dX0_solve_114 : decode cX0_solve 114 = .ok (.goto 4, 3) := by decide +kernel
theorem dX0_solve_117 : decode cX0_solve 117 = .ok (.iconst 0, 1) := by decide +kernel
theorem dX0_solve_118 : decode cX0_solve 118 = .ok (.ireturn, 1) := by decide +kernel
theorem dX0_consider_0 : decode cX0_consider 0 = .ok (.iconst 0, 1) := by decide +kernel
theorem dX0_consider_1 : decode cX0_consider 1 = .ok (.istore 4, 2) := by decide +kernel
theorem dX0_consider_3 : decode cX0_consider 3 = .ok (.iconst 0, 1) := by decide +kernel
theorem dX0_consider_4 : decode cX0_consider 4 = .ok (.istore 5, 2) := by decide +kernel
theorem dX0_consider_6 : decode cX0_consider 6 = .ok (.iload_n 2, 1) := by decide +kernel
theorem dX0_consider_7 : decode cX0_consider 7 = .ok (.iconst 1, 1) := by decide +kernel
theorem dX0_consider_8 : decode cX0_consider 8 = .ok (.iadd, 1) := by decide +kernel
theorem dX0_consider_9 : decode cX0_consider 9 = .ok (.aload_n 0, 1) := by decide +kernel
theorem dX0_consider_10 : decode cX0_consider 10 = .ok (.getfield 55, 3) := by decide +kernel
theorem dX0_consider_13 : decode cX0_consider 13 = .ok (.if_icmp .ge 47, 3) := by decide +kernel
theorem dX0_consider_16 : decode cX0_consider 16 = .ok (.aload_n 0, 1) := by decide +kernel
theorem dX0_consider_17 : decode cX0_consider 17 = .ok (.getfield 27, 3) := by decide +kernel
theorem dX0_consider_20 : decode cX0_consider 20 = .ok (.iload_n 2, 1) := by decide +kernel
theorem dX0_consider_21 : decode cX0_consider 21 = .ok (.iconst 1, 1) := by decide +kernel
theorem dX0_consider_22 : decode cX0_consider 22 = .ok (.iadd, 1) := by decide +kernel
theorem dX0_consider_23 : decode cX0_consider 23 = .ok (.iaload, 1) := by decide +kernel
theorem dX0_consider_24 : decode cX0_consider 24 = .ok (.iconst (-1), 1) := by decide +kernel
theorem dX0_consider_25 : decode cX0_consider 25 = .ok (.if_icmp .ne 4, 3) := by decide +kernel
theorem dX0_consider_28 : decode cX0_consider 28 = .ok (.return_, 1) := by decide +kernel
theorem dX0_consider_29 : decode cX0_consider 29 = .ok (.aload_n 0, 1) := by decide +kernel
theorem dX0_consider_30 : decode cX0_consider 30 = .ok (.getfield 9, 3) := by decide +kernel
theorem dX0_consider_33 : decode cX0_consider 33 = .ok (.iload_n 2, 1) := by decide +kernel
theorem dX0_consider_34 : decode cX0_consider 34 = .ok (.iaload, 1) := by decide +kernel
theorem dX0_consider_35 : decode cX0_consider 35 = .ok (.iload_n 3, 1) := by decide +kernel
theorem dX0_consider_36 : decode cX0_consider 36 = .ok (.isub, 1) := by decide +kernel
theorem dX0_consider_37 : decode cX0_consider 37 = .ok (.aload_n 0, 1) := by decide +kernel
theorem dX0_consider_38 : decode cX0_consider 38 = .ok (.getfield 21, 3) := by decide +kernel
theorem dX0_consider_41 : decode cX0_consider 41 = .ok (.iload_n 2, 1) := by decide +kernel
theorem dX0_consider_42 : decode cX0_consider 42 = .ok (.iconst 1, 1) := by decide +kernel
theorem dX0_consider_43 : decode cX0_consider 43 = .ok (.iadd, 1) := by decide +kernel
theorem dX0_consider_44 : decode cX0_consider 44 = .ok (.iaload, 1) := by decide +kernel
theorem dX0_consider_45 : decode cX0_consider 45 = .ok (.iadd, 1) := by decide +kernel
theorem dX0_consider_46 : decode cX0_consider 46 = .ok (.istore 4, 2) := by decide +kernel
theorem dX0_consider_48 : decode cX0_consider 48 = .ok (.aload_n 0, 1) := by decide +kernel
theorem dX0_consider_49 : decode cX0_consider 49 = .ok (.getfield 24, 3) := by decide +kernel
theorem dX0_consider_52 : decode cX0_consider 52 = .ok (.iload_n 2, 1) := by decide +kernel
theorem dX0_consider_53 : decode cX0_consider 53 = .ok (.iconst 1, 1) := by decide +kernel
theorem dX0_consider_54 : decode cX0_consider 54 = .ok (.iadd, 1) := by decide +kernel
theorem dX0_consider_55 : decode cX0_consider 55 = .ok (.iaload, 1) := by decide +kernel
theorem dX0_consider_56 : decode cX0_consider 56 = .ok (.iconst 1, 1) := by decide +kernel
theorem dX0_consider_57 : decode cX0_consider 57 = .ok (.iadd, 1) := by decide +kernel
theorem dX0_consider_58 : decode cX0_consider 58 = .ok (.istore 5, 2) := by decide +kernel
theorem dX0_consider_60 : decode cX0_consider 60 = .ok (.aload_n 0, 1) := by decide +kernel
theorem dX0_consider_61 : decode cX0_consider 61 = .ok (.getfield 27, 3) := by decide +kernel
theorem dX0_consider_64 : decode cX0_consider 64 = .ok (.iload_n 1, 1) := by decide +kernel
theorem dX0_consider_65 : decode cX0_consider 65 = .ok (.iaload, 1) := by decide +kernel
theorem dX0_consider_66 : decode cX0_consider 66 = .ok (.iconst (-1), 1) := by decide +kernel
theorem dX0_consider_67 : decode cX0_consider 67 = .ok (.if_icmp .eq 36, 3) := by decide +kernel
theorem dX0_consider_70 : decode cX0_consider 70 = .ok (.iload 4, 2) := by decide +kernel
theorem dX0_consider_72 : decode cX0_consider 72 = .ok (.aload_n 0, 1) := by decide +kernel
theorem dX0_consider_73 : decode cX0_consider 73 = .ok (.getfield 21, 3) := by decide +kernel
theorem dX0_consider_76 : decode cX0_consider 76 = .ok (.iload_n 1, 1) := by decide +kernel
theorem dX0_consider_77 : decode cX0_consider 77 = .ok (.iaload, 1) := by decide +kernel
theorem dX0_consider_78 : decode cX0_consider 78 = .ok (.if_icmp .gt 25, 3) := by decide +kernel
theorem dX0_consider_81 : decode cX0_consider 81 = .ok (.iload 4, 2) := by decide +kernel
theorem dX0_consider_83 : decode cX0_consider 83 = .ok (.aload_n 0, 1) := by decide +kernel
theorem dX0_consider_84 : decode cX0_consider 84 = .ok (.getfield 21, 3) := by decide +kernel
theorem dX0_consider_87 : decode cX0_consider 87 = .ok (.iload_n 1, 1) := by decide +kernel
theorem dX0_consider_88 : decode cX0_consider 88 = .ok (.iaload, 1) := by decide +kernel
theorem dX0_consider_89 : decode cX0_consider 89 = .ok (.if_icmp .ne 18, 3) := by decide +kernel
theorem dX0_consider_92 : decode cX0_consider 92 = .ok (.iload 5, 2) := by decide +kernel
theorem dX0_consider_94 : decode cX0_consider 94 = .ok (.aload_n 0, 1) := by decide +kernel
theorem dX0_consider_95 : decode cX0_consider 95 = .ok (.getfield 24, 3) := by decide +kernel
theorem dX0_consider_98 : decode cX0_consider 98 = .ok (.iload_n 1, 1) := by decide +kernel
theorem dX0_consider_99 : decode cX0_consider 99 = .ok (.iaload, 1) := by decide +kernel
theorem dX0_consider_100 : decode cX0_consider 100 = .ok (.if_icmp .ge 7, 3) := by decide +kernel
theorem dX0_consider_103 : decode cX0_consider 103 = .ok (.iconst 1, 1) := by decide +kernel
theorem dX0_consider_104 : decode cX0_consider 104 = .ok (.goto 4, 3) := by decide +kernel
theorem dX0_consider_107 : decode cX0_consider 107 = .ok (.iconst 0, 1) := by decide +kernel
theorem dX0_consider_108 : decode cX0_consider 108 = .ok (.istore 6, 2) := by decide +kernel
theorem dX0_consider_110 : decode cX0_consider 110 = .ok (.iload 6, 2) := by decide +kernel
theorem dX0_consider_112 : decode cX0_consider 112 = .ok (.ifCond .eq 26, 3) := by decide +kernel
theorem dX0_consider_115 : decode cX0_consider 115 = .ok (.aload_n 0, 1) := by decide +kernel
theorem dX0_consider_116 : decode cX0_consider 116 = .ok (.getfield 21, 3) := by decide +kernel
theorem dX0_consider_119 : decode cX0_consider 119 = .ok (.iload_n 1, 1) := by decide +kernel
theorem dX0_consider_120 : decode cX0_consider 120 = .ok (.iload 4, 2) := by decide +kernel
theorem dX0_consider_122 : decode cX0_consider 122 = .ok (.iastore, 1) := by decide +kernel
theorem dX0_consider_123 : decode cX0_consider 123 = .ok (.aload_n 0, 1) := by decide +kernel
theorem dX0_consider_124 : decode cX0_consider 124 = .ok (.getfield 24, 3) := by decide +kernel
theorem dX0_consider_127 : decode cX0_consider 127 = .ok (.iload_n 1, 1) := by decide +kernel
theorem dX0_consider_128 : decode cX0_consider 128 = .ok (.iload 5, 2) := by decide +kernel
theorem dX0_consider_130 : decode cX0_consider 130 = .ok (.iastore, 1) := by decide +kernel
theorem dX0_consider_131 : decode cX0_consider 131 = .ok (.aload_n 0, 1) := by decide +kernel
theorem dX0_consider_132 : decode cX0_consider 132 = .ok (.getfield 27, 3) := by decide +kernel
theorem dX0_consider_135 : decode cX0_consider 135 = .ok (.iload_n 1, 1) := by decide +kernel
theorem dX0_consider_136 : decode cX0_consider 136 = .ok (.iload_n 2, 1) := by decide +kernel
theorem dX0_consider_137 : decode cX0_consider 137 = .ok (.iastore, 1) := by decide +kernel
theorem dX0_consider_138 : decode cX0_consider 138 = .ok (.return_, 1) := by decide +kernel
theorem dX0_takeBest_0 : decode cX0_takeBest 0 = .ok (.aload_n 0, 1) := by decide +kernel
theorem dX0_takeBest_1 : decode cX0_takeBest 1 = .ok (.aload_n 0, 1) := by decide +kernel
theorem dX0_takeBest_2 : decode cX0_takeBest 2 = .ok (.getfield 21, 3) := by decide +kernel
theorem dX0_takeBest_5 : decode cX0_takeBest 5 = .ok (.iconst 0, 1) := by decide +kernel
theorem dX0_takeBest_6 : decode cX0_takeBest 6 = .ok (.iaload, 1) := by decide +kernel
theorem dX0_takeBest_7 : decode cX0_takeBest 7 = .ok (.putfield 114, 3) := by decide +kernel
theorem dX0_takeBest_10 : decode cX0_takeBest 10 = .ok (.iconst 0, 1) := by decide +kernel
theorem dX0_takeBest_11 : decode cX0_takeBest 11 = .ok (.istore_n 1, 1) := by decide +kernel
theorem dX0_takeBest_12 : decode cX0_takeBest 12 = .ok (.iconst 0, 1) := by decide +kernel
theorem dX0_takeBest_13 : decode cX0_takeBest 13 = .ok (.istore_n 2, 1) := by decide +kernel
theorem dX0_takeBest_14 : decode cX0_takeBest 14 = .ok (.iload_n 2, 1) := by decide +kernel
theorem dX0_takeBest_15 : decode cX0_takeBest 15 = .ok (.aload_n 0, 1) := by decide +kernel
theorem dX0_takeBest_16 : decode cX0_takeBest 16 = .ok (.getfield 55, 3) := by decide +kernel
theorem dX0_takeBest_19 : decode cX0_takeBest 19 = .ok (.if_icmp .ge 55, 3) := by decide +kernel
theorem dX0_takeBest_22 : decode cX0_takeBest 22 = .ok (.iload_n 2, 1) := by decide +kernel
theorem dX0_takeBest_23 : decode cX0_takeBest 23 = .ok (.iload_n 1, 1) := by decide +kernel
theorem dX0_takeBest_24 : decode cX0_takeBest 24 = .ok (.if_icmp .ne 32, 3) := by decide +kernel
theorem dX0_takeBest_27 : decode cX0_takeBest 27 = .ok (.aload_n 0, 1) := by decide +kernel
theorem dX0_takeBest_28 : decode cX0_takeBest 28 = .ok (.getfield 15, 3) := by decide +kernel
theorem dX0_takeBest_31 : decode cX0_takeBest 31 = .ok (.aload_n 0, 1) := by decide +kernel
theorem dX0_takeBest_32 : decode cX0_takeBest 32 = .ok (.getfield 73, 3) := by decide +kernel
theorem dX0_takeBest_35 : decode cX0_takeBest 35 = .ok (.iload_n 2, 1) := by decide +kernel
theorem dX0_takeBest_36 : decode cX0_takeBest 36 = .ok (.iastore, 1) := by decide +kernel
theorem dX0_takeBest_37 : decode cX0_takeBest 37 = .ok (.aload_n 0, 1) := by decide +kernel
theorem dX0_takeBest_38 : decode cX0_takeBest 38 = .ok (.dup, 1) := by decide +kernel
theorem dX0_takeBest_39 : decode cX0_takeBest 39 = .ok (.getfield 73, 3) := by decide +kernel
theorem dX0_takeBest_42 : decode cX0_takeBest 42 = .ok (.iconst 1, 1) := by decide +kernel
theorem dX0_takeBest_43 : decode cX0_takeBest 43 = .ok (.iadd, 1) := by decide +kernel
theorem dX0_takeBest_44 : decode cX0_takeBest 44 = .ok (.putfield 73, 3) := by decide +kernel
theorem dX0_takeBest_47 : decode cX0_takeBest 47 = .ok (.aload_n 0, 1) := by decide +kernel
theorem dX0_takeBest_48 : decode cX0_takeBest 48 = .ok (.getfield 27, 3) := by decide +kernel
theorem dX0_takeBest_51 : decode cX0_takeBest 51 = .ok (.iload_n 2, 1) := by decide +kernel
theorem dX0_takeBest_52 : decode cX0_takeBest 52 = .ok (.iaload, 1) := by decide +kernel
theorem dX0_takeBest_53 : decode cX0_takeBest 53 = .ok (.iconst 1, 1) := by decide +kernel
theorem dX0_takeBest_54 : decode cX0_takeBest 54 = .ok (.iadd, 1) := by decide +kernel
theorem dX0_takeBest_55 : decode cX0_takeBest 55 = .ok (.istore_n 1, 1) := by decide +kernel
theorem dX0_takeBest_56 : decode cX0_takeBest 56 = .ok (.aload_n 0, 1) := by decide +kernel
theorem dX0_takeBest_57 : decode cX0_takeBest 57 = .ok (.getfield 18, 3) := by decide +kernel
theorem dX0_takeBest_60 : decode cX0_takeBest 60 = .ok (.iload_n 2, 1) := by decide +kernel
theorem dX0_takeBest_61 : decode cX0_takeBest 61 = .ok (.aload_n 0, 1) := by decide +kernel
theorem dX0_takeBest_62 : decode cX0_takeBest 62 = .ok (.getfield 73, 3) := by decide +kernel
theorem dX0_takeBest_65 : decode cX0_takeBest 65 = .ok (.iconst 1, 1) := by decide +kernel
theorem dX0_takeBest_66 : decode cX0_takeBest 66 = .ok (.isub, 1) := by decide +kernel
theorem dX0_takeBest_67 : decode cX0_takeBest 67 = .ok (.iastore, 1) := by decide +kernel
theorem dX0_takeBest_68 : decode cX0_takeBest 68 = .ok (.iinc 2 1, 3) := by decide +kernel
theorem dX0_takeBest_71 : decode cX0_takeBest 71 = .ok (.goto (-57), 3) := by decide +kernel
theorem dX0_takeBest_74 : decode cX0_takeBest 74 = .ok (.return_, 1) := by decide +kernel
set_option maxRecDepth 100000 in
theorem ggX0_isLongEnough_X0_durationFrom : GoodIn wsX0_isLongEnough wsX0_durationFrom := goodIn_r _ [7, 8, 9, 10, 11, 12, 13, 14, 15, 16, 17, 18, 19, 20, 21, 22, 23] rfl (by decide +kernel)
set_option maxRecDepth 100000 in
theorem gX0_isLongEnough_X0_durationFrom : GoodIn wsX0_isLongEnough (wsV RX0 117 RX0 yX0_durationFrom wsX0_durationFrom) := goodIn_app (goodIn_of _ (by decide +kernel)) ggX0_isLongEnough_X0_durationFrom
theorem dX0_isLongEnough_0 : decode cX0_isLongEnough 0 = .ok (.aload_n 0, 1) := by decide +kernel
theorem dX0_isLongEnough_1 : decode cX0_isLongEnough 1 = .ok (.iload_n 1, 1) := by decide +kernel
theorem dX0_isLongEnough_2 : decode cX0_isLongEnough 2 = .ok (.iload_n 2, 1) := by decide +kernel
theorem dX0_isLongEnough_3 : decode cX0_isLongEnough 3 = .ok (.invokevirtual 117, 3) := by decide +kernel
theorem dX0_isLongEnough_6 : decode cX0_isLongEnough 6 = .ok (.istore_n 3, 1) := by decide +kernel
theorem dX0_isLongEnough_7 : decode cX0_isLongEnough 7 = .ok (.iload_n 3, 1) := by decide +kernel
theorem dX0_isLongEnough_8 : decode cX0_isLongEnough 8 = .ok (.aload_n 0, 1) := by decide +kernel
theorem dX0_isLongEnough_9 : decode cX0_isLongEnough 9 = .ok (.getfield 59, 3) := by decide +kernel
theorem dX0_isLongEnough_12 : decode cX0_isLongEnough 12 = .ok (.if_icmp .lt 15, 3) := by decide +kernel
theorem dX0_isLongEnough_15 : decode cX0_isLongEnough 15 = .ok (.iload_n 3, 1) := by decide +kernel
theorem dX0_isLongEnough_16 : decode cX0_isLongEnough 16 = .ok (.aload_n 0, 1) := by decide +kernel
theorem dX0_isLongEnough_17 : decode cX0_isLongEnough 17 = .ok (.getfield 62, 3) := by decide +kernel
theorem dX0_isLongEnough_20 : decode cX0_isLongEnough 20 = .ok (.if_icmp .gt 7, 3) := by decide +kernel
theorem dX0_isLongEnough_23 : decode cX0_isLongEnough 23 = .ok (.iconst 1, 1) := by decide +kernel
theorem dX0_isLongEnough_24 : decode cX0_isLongEnough 24 = .ok (.goto 4, 3) := by decide +kernel
theorem dX0_isLongEnough_27 : decode cX0_isLongEnough 27 = .ok (.iconst 0, 1) := by decide +kernel
theorem dX0_isLongEnough_28 : decode cX0_isLongEnough 28 = .ok (.ireturn, 1) := by decide +kernel
theorem dX0_durationFrom_0 : decode cX0_durationFrom 0 = .ok (.aload_n 0, 1) := by decide +kernel
theorem dX0_durationFrom_1 : decode cX0_durationFrom 1 = .ok (.getfield 30, 3) := by decide +kernel
theorem dX0_durationFrom_4 : decode cX0_durationFrom 4 = .ok (.iload_n 2, 1) := by decide +kernel
theorem dX0_durationFrom_5 : decode cX0_durationFrom 5 = .ok (.iconst 1, 1) := by decide +kernel
theorem dX0_durationFrom_6 : decode cX0_durationFrom 6 = .ok (.iadd, 1) := by decide +kernel
theorem dX0_durationFrom_7 : decode cX0_durationFrom 7 = .ok (.iaload, 1) := by decide +kernel
theorem dX0_durationFrom_8 : decode cX0_durationFrom 8 = .ok (.aload_n 0, 1) := by decide +kernel
theorem dX0_durationFrom_9 : decode cX0_durationFrom 9 = .ok (.getfield 30, 3) := by decide +kernel
theorem dX0_durationFrom_12 : decode cX0_durationFrom 12 = .ok (.iload_n 1, 1) := by decide +kernel
theorem dX0_durationFrom_13 : decode cX0_durationFrom 13 = .ok (.iaload, 1) := by decide +kernel
theorem dX0_durationFrom_14 : decode cX0_durationFrom 14 = .ok (.isub, 1) := by decide +kernel
theorem dX0_durationFrom_15 : decode cX0_durationFrom 15 = .ok (.ireturn, 1) := by decide +kernel
theorem dX0_lastOf_0 : decode cX0_lastOf 0 = .ok (.iload_n 1, 1) := by decide +kernel
theorem dX0_lastOf_1 : decode cX0_lastOf 1 = .ok (.iconst 1, 1) := by decide +kernel
theorem dX0_lastOf_2 : decode cX0_lastOf 2 = .ok (.iadd, 1) := by decide +kernel
theorem dX0_lastOf_3 : decode cX0_lastOf 3 = .ok (.aload_n 0, 1) := by decide +kernel
theorem dX0_lastOf_4 : decode cX0_lastOf 4 = .ok (.getfield 73, 3) := by decide +kernel
theorem dX0_lastOf_7 : decode cX0_lastOf 7 = .ok (.if_icmp .ge 16, 3) := by decide +kernel
theorem dX0_lastOf_10 : decode cX0_lastOf 10 = .ok (.aload_n 0, 1) := by decide +kernel
theorem dX0_lastOf_11 : decode cX0_lastOf 11 = .ok (.getfield 15, 3) := by decide +kernel
theorem dX0_lastOf_14 : decode cX0_lastOf 14 = .ok (.iload_n 1, 1) := by decide +kernel
theorem dX0_lastOf_15 : decode cX0_lastOf 15 = .ok (.iconst 1, 1) := by decide +kernel
theorem dX0_lastOf_16 : decode cX0_lastOf 16 = .ok (.iadd, 1) := by decide +kernel
theorem dX0_lastOf_17 : decode cX0_lastOf 17 = .ok (.iaload, 1) := by decide +kernel
theorem dX0_lastOf_18 : decode cX0_lastOf 18 = .ok (.iconst 1, 1) := by decide +kernel
theorem dX0_lastOf_19 : decode cX0_lastOf 19 = .ok (.isub, 1) := by decide +kernel
theorem dX0_lastOf_20 : decode cX0_lastOf 20 = .ok (.goto 9, 3) := by decide +kernel
theorem dX0_lastOf_23 : decode cX0_lastOf 23 = .ok (.aload_n 0, 1) := by decide +kernel
theorem dX0_lastOf_24 : decode cX0_lastOf 24 = .ok (.getfield 55, 3) := by decide +kernel
theorem dX0_lastOf_27 : decode cX0_lastOf 27 = .ok (.iconst 1, 1) := by decide +kernel
theorem dX0_lastOf_28 : decode cX0_lastOf 28 = .ok (.isub, 1) := by decide +kernel
theorem dX0_lastOf_29 : decode cX0_lastOf 29 = .ok (.ireturn, 1) := by decide +kernel
theorem dX0_isCut_0 : decode cX0_isCut 0 = .ok (.aload_n 0, 1) := by decide +kernel
theorem dX0_isCut_1 : decode cX0_isCut 1 = .ok (.getfield 73, 3) := by decide +kernel
theorem dX0_isCut_4 : decode cX0_isCut 4 = .ok (.ifCond .le 24, 3) := by decide +kernel
theorem dX0_isCut_7 : decode cX0_isCut 7 = .ok (.aload_n 0, 1) := by decide +kernel
theorem dX0_isCut_8 : decode cX0_isCut 8 = .ok (.getfield 18, 3) := by decide +kernel
theorem dX0_isCut_11 : decode cX0_isCut 11 = .ok (.iload_n 1, 1) := by decide +kernel
theorem dX0_isCut_12 : decode cX0_isCut 12 = .ok (.iaload, 1) := by decide +kernel
theorem dX0_isCut_13 : decode cX0_isCut 13 = .ok (.aload_n 0, 1) := by decide +kernel
theorem dX0_isCut_14 : decode cX0_isCut 14 = .ok (.getfield 18, 3) := by decide +kernel
theorem dX0_isCut_17 : decode cX0_isCut 17 = .ok (.iload_n 1, 1) := by decide +kernel
theorem dX0_isCut_18 : decode cX0_isCut 18 = .ok (.iconst 1, 1) := by decide +kernel
theorem dX0_isCut_19 : decode cX0_isCut 19 = .ok (.iadd, 1) := by decide +kernel
theorem dX0_isCut_20 : decode cX0_isCut 20 = .ok (.iaload, 1) := by decide +kernel
theorem dX0_isCut_21 : decode cX0_isCut 21 = .ok (.if_icmp .eq 7, 3) := by decide +kernel
theorem dX0_isCut_24 : decode cX0_isCut 24 = .ok (.iconst 1, 1) := by decide +kernel
theorem dX0_isCut_25 : decode cX0_isCut 25 = .ok (.goto 4, 3) := by decide +kernel
theorem dX0_isCut_28 : decode cX0_isCut 28 = .ok (.iconst 0, 1) := by decide +kernel
theorem dX0_isCut_29 : decode cX0_isCut 29 = .ok (.ireturn, 1) := by decide +kernel
theorem dX0_timeOf_0 : decode cX0_timeOf 0 = .ok (.aload_n 0, 1) := by decide +kernel
theorem dX0_timeOf_1 : decode cX0_timeOf 1 = .ok (.getfield 30, 3) := by decide +kernel
theorem dX0_timeOf_4 : decode cX0_timeOf 4 = .ok (.iload_n 1, 1) := by decide +kernel
theorem dX0_timeOf_5 : decode cX0_timeOf 5 = .ok (.iconst 1, 1) := by decide +kernel
theorem dX0_timeOf_6 : decode cX0_timeOf 6 = .ok (.iadd, 1) := by decide +kernel
theorem dX0_timeOf_7 : decode cX0_timeOf 7 = .ok (.iaload, 1) := by decide +kernel
theorem dX0_timeOf_8 : decode cX0_timeOf 8 = .ok (.ireturn, 1) := by decide +kernel
theorem dX0_worthOfCuts_0 : decode cX0_worthOfCuts 0 = .ok (.iconst 0, 1) := by decide +kernel
theorem dX0_worthOfCuts_1 : decode cX0_worthOfCuts 1 = .ok (.istore_n 3, 1) := by decide +kernel
theorem dX0_worthOfCuts_2 : decode cX0_worthOfCuts 2 = .ok (.iconst 0, 1) := by decide +kernel
theorem dX0_worthOfCuts_3 : decode cX0_worthOfCuts 3 = .ok (.istore 4, 2) := by decide +kernel
theorem dX0_worthOfCuts_5 : decode cX0_worthOfCuts 5 = .ok (.iload 4, 2) := by decide +kernel
theorem dX0_worthOfCuts_7 : decode cX0_worthOfCuts 7 = .ok (.aload_n 0, 1) := by decide +kernel
theorem dX0_worthOfCuts_8 : decode cX0_worthOfCuts 8 = .ok (.getfield 55, 3) := by decide +kernel
theorem dX0_worthOfCuts_11 : decode cX0_worthOfCuts 11 = .ok (.iconst 1, 1) := by decide +kernel
theorem dX0_worthOfCuts_12 : decode cX0_worthOfCuts 12 = .ok (.isub, 1) := by decide +kernel
theorem dX0_worthOfCuts_13 : decode cX0_worthOfCuts 13 = .ok (.if_icmp .ge 31, 3) := by decide +kernel
theorem dX0_worthOfCuts_16 : decode cX0_worthOfCuts 16 = .ok (.iload_n 1, 1) := by decide +kernel
theorem dX0_worthOfCuts_17 : decode cX0_worthOfCuts 17 = .ok (.iload 4, 2) := by decide +kernel
theorem dX0_worthOfCuts_19 : decode cX0_worthOfCuts 19 = .ok (.iushr, 1) := by decide +kernel
theorem dX0_worthOfCuts_20 : decode cX0_worthOfCuts 20 = .ok (.iconst 1, 1) := by decide +kernel
theorem dX0_worthOfCuts_21 : decode cX0_worthOfCuts 21 = .ok (.iand, 1) := by decide +kernel
theorem dX0_worthOfCuts_22 : decode cX0_worthOfCuts 22 = .ok (.iconst 1, 1) := by decide +kernel
theorem dX0_worthOfCuts_23 : decode cX0_worthOfCuts 23 = .ok (.if_icmp .ne 15, 3) := by decide +kernel
theorem dX0_worthOfCuts_26 : decode cX0_worthOfCuts 26 = .ok (.iload_n 3, 1) := by decide +kernel
theorem dX0_worthOfCuts_27 : decode cX0_worthOfCuts 27 = .ok (.aload_n 0, 1) := by decide +kernel
theorem dX0_worthOfCuts_28 : decode cX0_worthOfCuts 28 = .ok (.getfield 9, 3) := by decide +kernel
theorem dX0_worthOfCuts_31 : decode cX0_worthOfCuts 31 = .ok (.iload 4, 2) := by decide +kernel
theorem dX0_worthOfCuts_33 : decode cX0_worthOfCuts 33 = .ok (.iaload, 1) := by decide +kernel
theorem dX0_worthOfCuts_34 : decode cX0_worthOfCuts 34 = .ok (.iload_n 2, 1) := by decide +kernel
theorem dX0_worthOfCuts_35 : decode cX0_worthOfCuts 35 = .ok (.isub, 1) := by decide +kernel
theorem dX0_worthOfCuts_36 : decode cX0_worthOfCuts 36 = .ok (.iadd, 1) := by decide +kernel
theorem dX0_worthOfCuts_37 : decode cX0_worthOfCuts 37 = .ok (.istore_n 3, 1) := by decide +kernel
theorem dX0_worthOfCuts_38 : decode cX0_worthOfCuts 38 = .ok (.iinc 4 1, 3) := by decide +kernel
theorem dX0_worthOfCuts_41 : decode cX0_worthOfCuts 41 = .ok (.goto (-36), 3) := by decide +kernel
theorem dX0_worthOfCuts_44 : decode cX0_worthOfCuts 44 = .ok (.iload_n 3, 1) := by decide +kernel
theorem dX0_worthOfCuts_45 : decode cX0_worthOfCuts 45 = .ok (.ireturn, 1) := by decide +kernel
set_option maxRecDepth 100000 in
theorem ggX0_allows_X0_isLongEnough : GoodIn wsX0_allows wsX0_isLongEnough := goodIn_r _ [6, 7, 8, 9, 10, 11, 5, 12, 13, 14, 15, 16, 17, 18, 19, 20, 21, 22, 23, 24, 25, 26, 27, 28] rfl (by decide +kernel)
set_option maxRecDepth 100000 in
theorem gX0_allows_X0_isLongEnough : GoodIn wsX0_allows (wsV RX0 106 RX0 yX0_isLongEnough wsX0_isLongEnough) := goodIn_app (goodIn_of _ (by decide +kernel)) ggX0_allows_X0_isLongEnough
theorem dX0_allows_0 : decode cX0_allows 0 = .ok (.iconst 0, 1) := by decide +kernel
theorem dX0_allows_1 : decode cX0_allows 1 = .ok (.istore_n 2, 1) := by decide +kernel
theorem dX0_allows_2 : decode cX0_allows 2 = .ok (.iconst 0, 1) := by decide +kernel
theorem dX0_allows_3 : decode cX0_allows 3 = .ok (.istore_n 3, 1) := by decide +kernel
theorem dX0_allows_4 : decode cX0_allows 4 = .ok (.iload_n 3, 1) := by decide +kernel
theorem dX0_allows_5 : decode cX0_allows 5 = .ok (.aload_n 0, 1) := by decide +kernel
theorem dX0_allows_6 : decode cX0_allows 6 = .ok (.getfield 55, 3) := by decide +kernel
theorem dX0_allows_9 : decode cX0_allows 9 = .ok (.if_icmp .ge 43, 3) := by decide +kernel
theorem dX0_allows_12 : decode cX0_allows 12 = .ok (.iload_n 3, 1) := by decide +kernel
theorem dX0_allows_13 : decode cX0_allows 13 = .ok (.aload_n 0, 1) := by decide +kernel
theorem dX0_allows_14 : decode cX0_allows 14 = .ok (.getfield 55, 3) := by decide +kernel
theorem dX0_allows_17 : decode cX0_allows 17 = .ok (.iconst 1, 1) := by decide +kernel
theorem dX0_allows_18 : decode cX0_allows 18 = .ok (.isub, 1) := by decide +kernel
theorem dX0_allows_19 : decode cX0_allows 19 = .ok (.if_icmp .eq 12, 3) := by decide +kernel
theorem dX0_allows_22 : decode cX0_allows 22 = .ok (.iload_n 1, 1) := by decide +kernel
theorem dX0_allows_23 : decode cX0_allows 23 = .ok (.iload_n 3, 1) := by decide +kernel
theorem dX0_allows_24 : decode cX0_allows 24 = .ok (.iushr, 1) := by decide +kernel
theorem dX0_allows_25 : decode cX0_allows 25 = .ok (.iconst 1, 1) := by decide +kernel
theorem dX0_allows_26 : decode cX0_allows 26 = .ok (.iand, 1) := by decide +kernel
theorem dX0_allows_27 : decode cX0_allows 27 = .ok (.iconst 1, 1) := by decide +kernel
theorem dX0_allows_28 : decode cX0_allows 28 = .ok (.if_icmp .ne 18, 3) := by decide +kernel
theorem dX0_allows_31 : decode cX0_allows 31 = .ok (.aload_n 0, 1) := by decide +kernel
theorem dX0_allows_32 : decode cX0_allows 32 = .ok (.iload_n 2, 1) := by decide +kernel
theorem dX0_allows_33 : decode cX0_allows 33 = .ok (.iload_n 3, 1) := by decide +kernel
theorem dX0_allows_34 : decode cX0_allows 34 = .ok (.invokevirtual 106, 3) := by decide +kernel
theorem dX0_allows_37 : decode cX0_allows 37 = .ok (.ifCond .ne 5, 3) := by decide +kernel
theorem dX0_allows_40 : decode cX0_allows 40 = .ok (.iconst 0, 1) := by decide +kernel
theorem dX0_allows_41 : decode cX0_allows 41 = .ok (.ireturn, 1) := by decide +kernel
theorem dX0_allows_42 : decode cX0_allows 42 = .ok (.iload_n 3, 1) := by decide +kernel
theorem dX0_allows_43 : decode cX0_allows 43 = .ok (.iconst 1, 1) := by decide +kernel
theorem dX0_allows_44 : decode cX0_allows 44 = .ok (.iadd, 1) := by decide +kernel
theorem dX0_allows_45 : decode cX0_allows 45 = .ok (.istore_n 2, 1) := by decide +kernel
theorem dX0_allows_46 : decode cX0_allows 46 = .ok (.iinc 3 1, 3) := by decide +kernel
theorem dX0_allows_49 : decode cX0_allows 49 = .ok (.goto (-45), 3) := by decide +kernel
theorem dX0_allows_52 : decode cX0_allows 52 = .ok (.aload_n 0, 1) := by decide +kernel
theorem dX0_allows_53 : decode cX0_allows 53 = .ok (.getfield 55, 3) := by decide +kernel
theorem dX0_allows_56 : decode cX0_allows 56 = .ok (.ifCond .le 7, 3) := by decide +kernel
theorem dX0_allows_59 : decode cX0_allows 59 = .ok (.iconst 1, 1) := by decide +kernel
theorem dX0_allows_60 : decode cX0_allows 60 = .ok (.goto 4, 3) := by decide +kernel
theorem dX0_allows_63 : decode cX0_allows 63 = .ok (.iconst 0, 1) := by decide +kernel
theorem dX0_allows_64 : decode cX0_allows 64 = .ok (.ireturn, 1) := by decide +kernel
set_option maxRecDepth 100000 in
theorem ggX0_countAllowed_X0_isLongEnough : GoodIn wsX0_countAllowed wsX0_isLongEnough := goodIn_r _ [7, 8, 9, 10, 11, 12, 6, 13, 14, 15, 16, 17, 18, 19, 20, 21, 22, 23, 24, 25, 26, 27, 28, 29] rfl (by decide +kernel)
set_option maxRecDepth 100000 in
theorem gX0_countAllowed_X0_isLongEnough : GoodIn wsX0_countAllowed (wsV RX0 106 RX0 yX0_isLongEnough wsX0_isLongEnough) := goodIn_app (goodIn_of _ (by decide +kernel)) ggX0_countAllowed_X0_isLongEnough
theorem dX0_countAllowed_0 : decode cX0_countAllowed 0 = .ok (.aload_n 0, 1) := by decide +kernel
theorem dX0_countAllowed_1 : decode cX0_countAllowed 1 = .ok (.getfield 33, 3) := by decide +kernel
theorem dX0_countAllowed_4 : decode cX0_countAllowed 4 = .ok (.aload_n 0, 1) := by decide +kernel
theorem dX0_countAllowed_5 : decode cX0_countAllowed 5 = .ok (.getfield 55, 3) := by decide +kernel
theorem dX0_countAllowed_8 : decode cX0_countAllowed 8 = .ok (.lconst 1, 1) := by decide +kernel
theorem dX0_countAllowed_9 : decode cX0_countAllowed 9 = .ok (.lastore, 1) := by decide +kernel
theorem dX0_countAllowed_10 : decode cX0_countAllowed 10 = .ok (.aload_n 0, 1) := by decide +kernel
theorem dX0_countAllowed_11 : decode cX0_countAllowed 11 = .ok (.getfield 55, 3) := by decide +kernel
theorem dX0_countAllowed_14 : decode cX0_countAllowed 14 = .ok (.iconst 1, 1) := by decide +kernel
theorem dX0_countAllowed_15 : decode cX0_countAllowed 15 = .ok (.isub, 1) := by decide +kernel
theorem dX0_countAllowed_16 : decode cX0_countAllowed 16 = .ok (.istore_n 1, 1) := by decide +kernel
theorem dX0_countAllowed_17 : decode cX0_countAllowed 17 = .ok (.iload_n 1, 1) := by decide +kernel
theorem dX0_countAllowed_18 : decode cX0_countAllowed 18 = .ok (.ifCond .lt 58, 3) := by decide +kernel
theorem dX0_countAllowed_21 : decode cX0_countAllowed 21 = .ok (.aload_n 0, 1) := by decide +kernel
theorem dX0_countAllowed_22 : decode cX0_countAllowed 22 = .ok (.getfield 33, 3) := by decide +kernel
theorem dX0_countAllowed_25 : decode cX0_countAllowed 25 = .ok (.iload_n 1, 1) := by decide +kernel
theorem dX0_countAllowed_26 : decode cX0_countAllowed 26 = .ok (.lconst 0, 1) := by decide +kernel
theorem dX0_countAllowed_27 : decode cX0_countAllowed 27 = .ok (.lastore, 1) := by decide +kernel
theorem dX0_countAllowed_28 : decode cX0_countAllowed 28 = .ok (.iload_n 1, 1) := by decide +kernel
theorem dX0_countAllowed_29 : decode cX0_countAllowed 29 = .ok (.istore_n 2, 1) := by decide +kernel
theorem dX0_countAllowed_30 : decode cX0_countAllowed 30 = .ok (.iload_n 2, 1) := by decide +kernel
theorem dX0_countAllowed_31 : decode cX0_countAllowed 31 = .ok (.aload_n 0, 1) := by decide +kernel
theorem dX0_countAllowed_32 : decode cX0_countAllowed 32 = .ok (.getfield 55, 3) := by decide +kernel
theorem dX0_countAllowed_35 : decode cX0_countAllowed 35 = .ok (.if_icmp .ge 35, 3) := by decide +kernel
theorem dX0_countAllowed_38 : decode cX0_countAllowed 38 = .ok (.aload_n 0, 1) := by decide +kernel
theorem dX0_countAllowed_39 : decode cX0_countAllowed 39 = .ok (.iload_n 1, 1) := by decide +kernel
theorem dX0_countAllowed_40 : decode cX0_countAllowed 40 = .ok (.iload_n 2, 1) := by decide +kernel
theorem dX0_countAllowed_41 : decode cX0_countAllowed 41 = .ok (.invokevirtual 106, 3) := by decide +kernel
theorem dX0_countAllowed_44 : decode cX0_countAllowed 44 = .ok (.ifCond .eq 20, 3) := by decide +kernel
theorem dX0_countAllowed_47 : decode cX0_countAllowed 47 = .ok (.aload_n 0, 1) := by decide +kernel
theorem dX0_countAllowed_48 : decode cX0_countAllowed 48 = .ok (.getfield 33, 3) := by decide +kernel
theorem dX0_countAllowed_51 : decode cX0_countAllowed 51 = .ok (.iload_n 1, 1) := by decide +kernel
theorem dX0_countAllowed_52 : decode cX0_countAllowed 52 = .ok (.dup2, 1) := by decide +kernel
theorem dX0_countAllowed_53 : decode cX0_countAllowed 53 = .ok (.laload, 1) := by decide +kernel
theorem dX0_countAllowed_54 : decode cX0_countAllowed 54 = .ok (.aload_n 0, 1) := by decide +kernel
theorem dX0_countAllowed_55 : decode cX0_countAllowed 55 = .ok (.getfield 33, 3) := by decide +kernel
theorem dX0_countAllowed_58 : decode cX0_countAllowed 58 = .ok (.iload_n 2, 1) := by decide +kernel
theorem dX0_countAllowed_59 : decode cX0_countAllowed 59 = .ok (.iconst 1, 1) := by decide +kernel
theorem dX0_countAllowed_60 : decode cX0_countAllowed 60 = .ok (.iadd, 1) := by decide +kernel
theorem dX0_countAllowed_61 : decode cX0_countAllowed 61 = .ok (.laload, 1) := by decide +kernel
theorem dX0_countAllowed_62 : decode cX0_countAllowed 62 = .ok (.ladd, 1) := by decide +kernel
theorem dX0_countAllowed_63 : decode cX0_countAllowed 63 = .ok (.lastore, 1) := by decide +kernel
theorem dX0_countAllowed_64 : decode cX0_countAllowed 64 = .ok (.iinc 2 1, 3) := by decide +kernel
theorem dX0_countAllowed_67 : decode cX0_countAllowed 67 = .ok (.goto (-37), 3) := by decide +kernel
theorem dX0_countAllowed_70 : decode cX0_countAllowed 70 = .ok (.iinc 1 (-1), 3) := by decide +kernel
theorem dX0_countAllowed_73 : decode cX0_countAllowed 73 = .ok (.goto (-56), 3) := by decide +kernel
theorem dX0_countAllowed_76 : decode cX0_countAllowed 76 = .ok (.aload_n 0, 1) := by decide +kernel
theorem dX0_countAllowed_77 : decode cX0_countAllowed 77 = .ok (.getfield 55, 3) := by decide +kernel
theorem dX0_countAllowed_80 : decode cX0_countAllowed 80 = .ok (.ifCond .le 12, 3) := by decide +kernel
theorem dX0_countAllowed_83 : decode cX0_countAllowed 83 = .ok (.aload_n 0, 1) := by decide +kernel
theorem dX0_countAllowed_84 : decode cX0_countAllowed 84 = .ok (.getfield 33, 3) := by decide +kernel
theorem dX0_countAllowed_87 : decode cX0_countAllowed 87 = .ok (.iconst 0, 1) := by decide +kernel
theorem dX0_countAllowed_88 : decode cX0_countAllowed 88 = .ok (.laload, 1) := by decide +kernel
theorem dX0_countAllowed_89 : decode cX0_countAllowed 89 = .ok (.goto 4, 3) := by decide +kernel
theorem dX0_countAllowed_92 : decode cX0_countAllowed 92 = .ok (.lconst 0, 1) := by decide +kernel
theorem dX0_countAllowed_93 : decode cX0_countAllowed 93 = .ok (.lreturn, 1) := by decide +kernel
set_option maxRecDepth 100000 in
theorem ggX0_greatestPrice_X0_chaptersAtPrice : GoodIn wsX0_greatestPrice wsX0_chaptersAtPrice := goodIn_r _ [5, 6, 7, 8, 9, 4, 10, 11, 12, 13, 14, 15, 16, 17, 18, 19, 20, 21, 22, 23, 24, 25, 26, 27, 28, 29, 30, 31, 32, 33, 34, 35, 36, 37, 38, 39, 40, 41, 42, 43, 44] rfl (by decide +kernel)
set_option maxRecDepth 100000 in
theorem gX0_greatestPrice_X0_chaptersAtPrice : GoodIn wsX0_greatestPrice (wsV RX0 120 RX0 yX0_chaptersAtPrice wsX0_chaptersAtPrice) := goodIn_app (goodIn_of _ (by decide +kernel)) ggX0_greatestPrice_X0_chaptersAtPrice
theorem dX0_greatestPrice_0 : decode cX0_greatestPrice 0 = .ok (.aload_n 0, 1) := by decide +kernel
theorem dX0_greatestPrice_1 : decode cX0_greatestPrice 1 = .ok (.iconst 0, 1) := by decide +kernel
theorem dX0_greatestPrice_2 : decode cX0_greatestPrice 2 = .ok (.invokevirtual 120, 3) := by decide +kernel
theorem dX0_greatestPrice_5 : decode cX0_greatestPrice 5 = .ok (.iload_n 1, 1) := by decide +kernel
theorem dX0_greatestPrice_6 : decode cX0_greatestPrice 6 = .ok (.if_icmp .ge 5, 3) := by decide +kernel
theorem dX0_greatestPrice_9 : decode cX0_greatestPrice 9 = .ok (.iconst (-1), 1) := by decide +kernel
theorem dX0_greatestPrice_10 : decode cX0_greatestPrice 10 = .ok (.ireturn, 1) := by decide +kernel
theorem dX0_greatestPrice_11 : decode cX0_greatestPrice 11 = .ok (.iconst 0, 1) := by decide +kernel
theorem dX0_greatestPrice_12 : decode cX0_greatestPrice 12 = .ok (.istore_n 2, 1) := by decide +kernel
theorem dX0_greatestPrice_13 : decode cX0_greatestPrice 13 = .ok (.bipush 64, 2) := by decide +kernel
theorem dX0_greatestPrice_15 : decode cX0_greatestPrice 15 = .ok (.istore_n 3, 1) := by decide +kernel
theorem dX0_greatestPrice_16 : decode cX0_greatestPrice 16 = .ok (.iload_n 3, 1) := by decide +kernel
theorem dX0_greatestPrice_17 : decode cX0_greatestPrice 17 = .ok (.ifCond .le 33, 3) := by decide +kernel
theorem dX0_greatestPrice_20 : decode cX0_greatestPrice 20 = .ok (.iload_n 2, 1) := by decide +kernel
theorem dX0_greatestPrice_21 : decode cX0_greatestPrice 21 = .ok (.iload_n 3, 1) := by decide +kernel
theorem dX0_greatestPrice_22 : decode cX0_greatestPrice 22 = .ok (.iadd, 1) := by decide +kernel
theorem dX0_greatestPrice_23 : decode cX0_greatestPrice 23 = .ok (.bipush 100, 2) := by decide +kernel
theorem dX0_greatestPrice_25 : decode cX0_greatestPrice 25 = .ok (.if_icmp .gt 18, 3) := by decide +kernel
theorem dX0_greatestPrice_28 : decode cX0_greatestPrice 28 = .ok (.aload_n 0, 1) := by decide +kernel
theorem dX0_greatestPrice_29 : decode cX0_greatestPrice 29 = .ok (.iload_n 2, 1) := by decide +kernel
theorem dX0_greatestPrice_30 : decode cX0_greatestPrice 30 = .ok (.iload_n 3, 1) := by decide +kernel
theorem dX0_greatestPrice_31 : decode cX0_greatestPrice 31 = .ok (.iadd, 1) := by decide +kernel
theorem dX0_greatestPrice_32 : decode cX0_greatestPrice 32 = .ok (.invokevirtual 120, 3) := by decide +kernel
theorem dX0_greatestPrice_35 : decode cX0_greatestPrice 35 = .ok (.iload_n 1, 1) := by decide +kernel
theorem dX0_greatestPrice_36 : decode cX0_greatestPrice 36 = .ok (.if_icmp .lt 7, 3) := by decide +kernel
theorem dX0_greatestPrice_39 : decode cX0_greatestPrice 39 = .ok (.iload_n 2, 1) := by decide +kernel
theorem dX0_greatestPrice_40 : decode cX0_greatestPrice 40 = .ok (.iload_n 3, 1) := by decide +kernel
theorem dX0_greatestPrice_41 : decode cX0_greatestPrice 41 = .ok (.iadd, 1) := by decide +kernel
theorem dX0_greatestPrice_42 : decode cX0_greatestPrice 42 = .ok (.istore_n 2, 1) := by decide +kernel
theorem dX0_greatestPrice_43 : decode cX0_greatestPrice 43 = .ok (.iload_n 3, 1) := by decide +kernel
theorem dX0_greatestPrice_44 : decode cX0_greatestPrice 44 = .ok (.iconst 2, 1) := by decide +kernel
theorem dX0_greatestPrice_45 : decode cX0_greatestPrice 45 = .ok (.idiv, 1) := by decide +kernel
theorem dX0_greatestPrice_46 : decode cX0_greatestPrice 46 = .ok (.istore_n 3, 1) := by decide +kernel
theorem dX0_greatestPrice_47 : decode cX0_greatestPrice 47 = .ok (.goto (-31), 3) := by decide +kernel
theorem dX0_greatestPrice_50 : decode cX0_greatestPrice 50 = .ok (.iload_n 2, 1) := by decide +kernel
theorem dX0_greatestPrice_51 : decode cX0_greatestPrice 51 = .ok (.ireturn, 1) := by decide +kernel
set_option maxRecDepth 100000 in
theorem ggX0_chaptersAtPrice_X0_solve : GoodIn wsX0_chaptersAtPrice wsX0_solve := goodIn_r _ [6, 7, 8, 9, 10, 11, 5, 12, 13, 14, 15, 16, 17, 18, 19, 20, 21, 22, 23, 24, 25, 1, 26, 27, 28, 29, 30, 31, 32, 33, 34, 35, 36, 37, 38, 39, 40] rfl (by decide +kernel)
set_option maxRecDepth 100000 in
theorem gX0_chaptersAtPrice_X0_solve : GoodIn wsX0_chaptersAtPrice (wsV RX0 76 RX0 yX0_solve wsX0_solve) := goodIn_app (goodIn_of _ (by decide +kernel)) ggX0_chaptersAtPrice_X0_solve
theorem dX0_chaptersAtPrice_0 : decode cX0_chaptersAtPrice 0 = .ok (.aload_n 0, 1) := by decide +kernel
theorem dX0_chaptersAtPrice_1 : decode cX0_chaptersAtPrice 1 = .ok (.iload_n 1, 1) := by decide +kernel
theorem dX0_chaptersAtPrice_2 : decode cX0_chaptersAtPrice 2 = .ok (.iconst (-1), 1) := by decide +kernel
theorem dX0_chaptersAtPrice_3 : decode cX0_chaptersAtPrice 3 = .ok (.iconst (-1), 1) := by decide +kernel
theorem dX0_chaptersAtPrice_4 : decode cX0_chaptersAtPrice 4 = .ok (.invokevirtual 76, 3) := by decide +kernel
theorem dX0_chaptersAtPrice_7 : decode cX0_chaptersAtPrice 7 = .ok (.ifCond .eq 14, 3) := by decide +kernel
theorem dX0_chaptersAtPrice_10 : decode cX0_chaptersAtPrice 10 = .ok (.aload_n 0, 1) := by decide +kernel
theorem dX0_chaptersAtPrice_11 : decode cX0_chaptersAtPrice 11 = .ok (.getfield 24, 3) := by decide +kernel
theorem dX0_chaptersAtPrice_14 : decode cX0_chaptersAtPrice 14 = .ok (.iconst 0, 1) := by decide +kernel
theorem dX0_chaptersAtPrice_15 : decode cX0_chaptersAtPrice 15 = .ok (.iaload, 1) := by decide +kernel
theorem dX0_chaptersAtPrice_16 : decode cX0_chaptersAtPrice 16 = .ok (.iconst 1, 1) := by decide +kernel
theorem dX0_chaptersAtPrice_17 : decode cX0_chaptersAtPrice 17 = .ok (.iadd, 1) := by decide +kernel
theorem dX0_chaptersAtPrice_18 : decode cX0_chaptersAtPrice 18 = .ok (.goto 4, 3) := by decide +kernel
theorem dX0_chaptersAtPrice_21 : decode cX0_chaptersAtPrice 21 = .ok (.iconst 0, 1) := by decide +kernel
theorem dX0_chaptersAtPrice_22 : decode cX0_chaptersAtPrice 22 = .ok (.ireturn, 1) := by decide +kernel
set_option maxRecDepth 100000 in
theorem ggX1_init_X6_init : GoodIn wsX1_init wsX6_init := goodIn_r _ [9, 10, 2, 3, 11, 12, 13, 14, 15, 16, 17, 18, 19, 20, 21, 22, 23, 24, 25, 26, 27, 28, 29, 30, 31, 32, 33, 34, 35, 36, 37, 38, 39, 40, 41, 42, 43, 44, 45, 46, 47, 48, 49, 50, 51, 52, 60, 61, 62, 63, 64, 65, 66, 67, 56, 57, 58, 59, 68, 69, 70, 71, 72, 73, 74, 75, 76, 77] rfl (by decide +kernel)
set_option maxRecDepth 100000 in
theorem gX1_init_X6_init_n17 : GoodIn wsX1_init (wsX6_init) := ggX1_init_X6_init
theorem dX1_init_0 : decode cX1_init 0 = .ok (.aload_n 0, 1) := by decide +kernel
theorem dX1_init_1 : decode cX1_init 1 = .ok (.invokespecial 3, 3) := by decide +kernel
theorem dX1_init_4 : decode cX1_init 4 = .ok (.aload_n 0, 1) := by decide +kernel
theorem dX1_init_5 : decode cX1_init 5 = .ok (.bipush 8, 2) := by decide +kernel
theorem dX1_init_7 : decode cX1_init 7 = .ok (.anewarray 9, 3) := by decide +kernel
theorem dX1_init_10 : decode cX1_init 10 = .ok (.putfield 11, 3) := by decide +kernel
theorem dX1_init_13 : decode cX1_init 13 = .ok (.iconst 0, 1) := by decide +kernel
theorem dX1_init_14 : decode cX1_init 14 = .ok (.istore_n 1, 1) := by decide +kernel
theorem dX1_init_15 : decode cX1_init 15 = .ok (.iload_n 1, 1) := by decide +kernel
theorem dX1_init_16 : decode cX1_init 16 = .ok (.bipush 8, 2) := by decide +kernel
theorem dX1_init_18 : decode cX1_init 18 = .ok (.if_icmp .ge 22, 3) := by decide +kernel
theorem dX1_init_21 : decode cX1_init 21 = .ok (.aload_n 0, 1) := by decide +kernel
theorem dX1_init_22 : decode cX1_init 22 = .ok (.getfield 11, 3) := by decide +kernel
theorem dX1_init_25 : decode cX1_init 25 = .ok (.iload_n 1, 1) := by decide +kernel
theorem dX1_init_26 : decode cX1_init 26 = .ok (.new 9, 3) := by decide +kernel
theorem dX1_init_29 : decode cX1_init 29 = .ok (.dup, 1) := by decide +kernel
theorem dX1_init_30 : decode cX1_init 30 = .ok (.invokespecial 17, 3) := by decide +kernel
theorem dX1_init_33 : decode cX1_init 33 = .ok (.aastore, 1) := by decide +kernel
theorem dX1_init_34 : decode cX1_init 34 = .ok (.iinc 1 1, 3) := by decide +kernel
theorem dX1_init_37 : decode cX1_init 37 = .ok (.goto (-22), 3) := by decide +kernel
theorem dX1_init_40 : decode cX1_init 40 = .ok (.return_, 1) := by decide +kernel
set_option maxRecDepth 100000 in
theorem ggX1_remember_X6_copyFrom : GoodIn wsX1_remember wsX6_copyFrom := goodIn_r _ [8, 9, 10, 11, 12, 13, 14, 15, 16, 17, 18, 19, 20, 21, 22, 23, 24, 25, 26, 27, 28, 29, 30, 31, 32, 33, 34, 35, 36, 37, 38, 39, 40, 41, 42, 43, 44, 45, 46, 47, 48, 49, 50, 51, 52, 56, 57, 58, 59, 60, 61, 62, 63, 64, 65, 66, 67, 68, 69, 70, 71, 72, 73, 74, 75, 76, 77] rfl (by decide +kernel)
set_option maxRecDepth 100000 in
theorem gX1_remember_X6_copyFrom : GoodIn wsX1_remember (wsV RX1 25 RX6 yX6_copyFrom wsX6_copyFrom) := goodIn_app (goodIn_of _ (by decide +kernel)) ggX1_remember_X6_copyFrom
theorem dX1_remember_0 : decode cX1_remember 0 = .ok (.aload_n 0, 1) := by decide +kernel
theorem dX1_remember_1 : decode cX1_remember 1 = .ok (.getfield 11, 3) := by decide +kernel
theorem dX1_remember_4 : decode cX1_remember 4 = .ok (.aload_n 0, 1) := by decide +kernel
theorem dX1_remember_5 : decode cX1_remember 5 = .ok (.getfield 18, 3) := by decide +kernel
theorem dX1_remember_8 : decode cX1_remember 8 = .ok (.aload_n 0, 1) := by decide +kernel
theorem dX1_remember_9 : decode cX1_remember 9 = .ok (.getfield 22, 3) := by decide +kernel
theorem dX1_remember_12 : decode cX1_remember 12 = .ok (.iadd, 1) := by decide +kernel
theorem dX1_remember_13 : decode cX1_remember 13 = .ok (.bipush 8, 2) := by decide +kernel
theorem dX1_remember_15 : decode cX1_remember 15 = .ok (.irem, 1) := by decide +kernel
theorem dX1_remember_16 : decode cX1_remember 16 = .ok (.aaload, 1) := by decide +kernel
theorem dX1_remember_17 : decode cX1_remember 17 = .ok (.aload_n 1, 1) := by decide +kernel
theorem dX1_remember_18 : decode cX1_remember 18 = .ok (.invokevirtual 25, 3) := by decide +kernel
theorem dX1_remember_21 : decode cX1_remember 21 = .ok (.aload_n 0, 1) := by decide +kernel
theorem dX1_remember_22 : decode cX1_remember 22 = .ok (.getfield 22, 3) := by decide +kernel
theorem dX1_remember_25 : decode cX1_remember 25 = .ok (.bipush 8, 2) := by decide +kernel
theorem dX1_remember_27 : decode cX1_remember 27 = .ok (.if_icmp .ge 16, 3) := by decide +kernel
theorem dX1_remember_30 : decode cX1_remember 30 = .ok (.aload_n 0, 1) := by decide +kernel
theorem dX1_remember_31 : decode cX1_remember 31 = .ok (.dup, 1) := by decide +kernel
theorem dX1_remember_32 : decode cX1_remember 32 = .ok (.getfield 22, 3) := by decide +kernel
theorem dX1_remember_35 : decode cX1_remember 35 = .ok (.iconst 1, 1) := by decide +kernel
theorem dX1_remember_36 : decode cX1_remember 36 = .ok (.iadd, 1) := by decide +kernel
theorem dX1_remember_37 : decode cX1_remember 37 = .ok (.putfield 22, 3) := by decide +kernel
theorem dX1_remember_40 : decode cX1_remember 40 = .ok (.goto 16, 3) := by decide +kernel
theorem dX1_remember_43 : decode cX1_remember 43 = .ok (.aload_n 0, 1) := by decide +kernel
theorem dX1_remember_44 : decode cX1_remember 44 = .ok (.aload_n 0, 1) := by decide +kernel
theorem dX1_remember_45 : decode cX1_remember 45 = .ok (.getfield 18, 3) := by decide +kernel
theorem dX1_remember_48 : decode cX1_remember 48 = .ok (.iconst 1, 1) := by decide +kernel
theorem dX1_remember_49 : decode cX1_remember 49 = .ok (.iadd, 1) := by decide +kernel
theorem dX1_remember_50 : decode cX1_remember 50 = .ok (.bipush 8, 2) := by decide +kernel
theorem dX1_remember_52 : decode cX1_remember 52 = .ok (.irem, 1) := by decide +kernel
theorem dX1_remember_53 : decode cX1_remember 53 = .ok (.putfield 18, 3) := by decide +kernel
theorem dX1_remember_56 : decode cX1_remember 56 = .ok (.return_, 1) := by decide +kernel
set_option maxRecDepth 100000 in
theorem ggX1_bringBack_X6_copyFrom : GoodIn wsX1_bringBack wsX6_copyFrom := goodIn_r _ [8, 9, 10, 11, 12, 13, 14, 15, 16, 17, 18, 19, 20, 21, 22, 23, 24, 25, 26, 27, 28, 29, 30, 31, 32, 33, 34, 35, 36, 37, 38, 39, 40, 41, 42, 43, 44, 45, 46, 47, 48, 49, 50, 51, 52, 56, 57, 58, 59, 60, 61, 62, 63, 64, 65, 66, 67, 68, 69, 70, 71, 72, 73, 74, 75, 76, 77] rfl (by decide +kernel)
set_option maxRecDepth 100000 in
theorem gX1_bringBack_X6_copyFrom : GoodIn wsX1_bringBack (wsV RX1 25 RX6 yX6_copyFrom wsX6_copyFrom) := goodIn_app (goodIn_of _ (by decide +kernel)) ggX1_bringBack_X6_copyFrom
theorem dX1_bringBack_0 : decode cX1_bringBack 0 = .ok (.aload_n 0, 1) := by decide +kernel
theorem dX1_bringBack_1 : decode cX1_bringBack 1 = .ok (.getfield 22, 3) := by decide +kernel
theorem dX1_bringBack_4 : decode cX1_bringBack 4 = .ok (.ifCond .le 34, 3) := by decide +kernel
theorem dX1_bringBack_7 : decode cX1_bringBack 7 = .ok (.aload_n 0, 1) := by decide +kernel
theorem dX1_bringBack_8 : decode cX1_bringBack 8 = .ok (.dup, 1) := by decide +kernel
theorem dX1_bringBack_9 : decode cX1_bringBack 9 = .ok (.getfield 22, 3) := by decide +kernel
theorem dX1_bringBack_12 : decode cX1_bringBack 12 = .ok (.iconst 1, 1) := by decide +kernel
theorem dX1_bringBack_13 : decode cX1_bringBack 13 = .ok (.isub, 1) := by decide +kernel
theorem dX1_bringBack_14 : decode cX1_bringBack 14 = .ok (.putfield 22, 3) := by decide +kernel
theorem dX1_bringBack_17 : decode cX1_bringBack 17 = .ok (.aload_n 1, 1) := by decide +kernel
theorem dX1_bringBack_18 : decode cX1_bringBack 18 = .ok (.aload_n 0, 1) := by decide +kernel
theorem dX1_bringBack_19 : decode cX1_bringBack 19 = .ok (.getfield 11, 3) := by decide +kernel
theorem dX1_bringBack_22 : decode cX1_bringBack 22 = .ok (.aload_n 0, 1) := by decide +kernel
theorem dX1_bringBack_23 : decode cX1_bringBack 23 = .ok (.getfield 18, 3) := by decide +kernel
theorem dX1_bringBack_26 : decode cX1_bringBack 26 = .ok (.aload_n 0, 1) := by decide +kernel
theorem dX1_bringBack_27 : decode cX1_bringBack 27 = .ok (.getfield 22, 3) := by decide +kernel
theorem dX1_bringBack_30 : decode cX1_bringBack 30 = .ok (.iadd, 1) := by decide +kernel
theorem dX1_bringBack_31 : decode cX1_bringBack 31 = .ok (.bipush 8, 2) := by decide +kernel
theorem dX1_bringBack_33 : decode cX1_bringBack 33 = .ok (.irem, 1) := by decide +kernel
theorem dX1_bringBack_34 : decode cX1_bringBack 34 = .ok (.aaload, 1) := by decide +kernel
theorem dX1_bringBack_35 : decode cX1_bringBack 35 = .ok (.invokevirtual 25, 3) := by decide +kernel
theorem dX1_bringBack_38 : decode cX1_bringBack 38 = .ok (.return_, 1) := by decide +kernel
theorem dX2_init_0 : decode cX2_init 0 = .ok (.aload_n 0, 1) := by decide +kernel
theorem dX2_init_1 : decode cX2_init 1 = .ok (.invokespecial 3, 3) := by decide +kernel
theorem dX2_init_4 : decode cX2_init 4 = .ok (.aload_n 0, 1) := by decide +kernel
theorem dX2_init_5 : decode cX2_init 5 = .ok (.bipush 32, 2) := by decide +kernel
theorem dX2_init_7 : decode cX2_init 7 = .ok (.newarray .int, 2) := by decide +kernel
theorem dX2_init_9 : decode cX2_init 9 = .ok (.putfield 9, 3) := by decide +kernel
theorem dX2_init_12 : decode cX2_init 12 = .ok (.aload_n 0, 1) := by decide +kernel
theorem dX2_init_13 : decode cX2_init 13 = .ok (.bipush 32, 2) := by decide +kernel
theorem dX2_init_15 : decode cX2_init 15 = .ok (.newarray .int, 2) := by decide +kernel
theorem dX2_init_17 : decode cX2_init 17 = .ok (.putfield 15, 3) := by decide +kernel
theorem dX2_init_20 : decode cX2_init 20 = .ok (.aload_n 0, 1) := by decide +kernel
theorem dX2_init_21 : decode cX2_init 21 = .ok (.bipush 32, 2) := by decide +kernel
theorem dX2_init_23 : decode cX2_init 23 = .ok (.newarray .int, 2) := by decide +kernel
theorem dX2_init_25 : decode cX2_init 25 = .ok (.putfield 18, 3) := by decide +kernel
theorem dX2_init_28 : decode cX2_init 28 = .ok (.return_, 1) := by decide +kernel
theorem dX2_copyFrom_0 : decode cX2_copyFrom 0 = .ok (.aload_n 0, 1) := by decide +kernel
theorem dX2_copyFrom_1 : decode cX2_copyFrom 1 = .ok (.aload_n 1, 1) := by decide +kernel
theorem dX2_copyFrom_2 : decode cX2_copyFrom 2 = .ok (.getfield 21, 3) := by decide +kernel
theorem dX2_copyFrom_5 : decode cX2_copyFrom 5 = .ok (.putfield 21, 3) := by decide +kernel
theorem dX2_copyFrom_8 : decode cX2_copyFrom 8 = .ok (.aload_n 0, 1) := by decide +kernel
theorem dX2_copyFrom_9 : decode cX2_copyFrom 9 = .ok (.aload_n 1, 1) := by decide +kernel
theorem dX2_copyFrom_10 : decode cX2_copyFrom 10 = .ok (.getfield 25, 3) := by decide +kernel
theorem dX2_copyFrom_13 : decode cX2_copyFrom 13 = .ok (.putfield 25, 3) := by decide +kernel
theorem dX2_copyFrom_16 : decode cX2_copyFrom 16 = .ok (.aload_n 0, 1) := by decide +kernel
theorem dX2_copyFrom_17 : decode cX2_copyFrom 17 = .ok (.aload_n 1, 1) := by decide +kernel
theorem dX2_copyFrom_18 : decode cX2_copyFrom 18 = .ok (.getfield 29, 3) := by decide +kernel
theorem dX2_copyFrom_21 : decode cX2_copyFrom 21 = .ok (.putfield 29, 3) := by decide +kernel
theorem dX2_copyFrom_24 : decode cX2_copyFrom 24 = .ok (.aload_n 1, 1) := by decide +kernel
theorem dX2_copyFrom_25 : decode cX2_copyFrom 25 = .ok (.getfield 9, 3) := by decide +kernel
theorem dX2_copyFrom_28 : decode cX2_copyFrom 28 = .ok (.iconst 0, 1) := by decide +kernel
theorem dX2_copyFrom_29 : decode cX2_copyFrom 29 = .ok (.aload_n 0, 1) := by decide +kernel
theorem dX2_copyFrom_30 : decode cX2_copyFrom 30 = .ok (.getfield 9, 3) := by decide +kernel
theorem dX2_copyFrom_33 : decode cX2_copyFrom 33 = .ok (.iconst 0, 1) := by decide +kernel
theorem dX2_copyFrom_34 : decode cX2_copyFrom 34 = .ok (.bipush 32, 2) := by decide +kernel
theorem dX2_copyFrom_36 : decode cX2_copyFrom 36 = .ok (.invokestatic 32, 3) := by decide +kernel
theorem dX2_copyFrom_39 : decode cX2_copyFrom 39 = .ok (.aload_n 1, 1) := by decide +kernel
theorem dX2_copyFrom_40 : decode cX2_copyFrom 40 = .ok (.getfield 15, 3) := by decide +kernel
theorem dX2_copyFrom_43 : decode cX2_copyFrom 43 = .ok (.iconst 0, 1) := by decide +kernel
theorem dX2_copyFrom_44 : decode cX2_copyFrom 44 = .ok (.aload_n 0, 1) := by decide +kernel
theorem dX2_copyFrom_45 : decode cX2_copyFrom 45 = .ok (.getfield 15, 3) := by decide +kernel
theorem dX2_copyFrom_48 : decode cX2_copyFrom 48 = .ok (.iconst 0, 1) := by decide +kernel
theorem dX2_copyFrom_49 : decode cX2_copyFrom 49 = .ok (.bipush 32, 2) := by decide +kernel
theorem dX2_copyFrom_51 : decode cX2_copyFrom 51 = .ok (.invokestatic 32, 3) := by decide +kernel
theorem dX2_copyFrom_54 : decode cX2_copyFrom 54 = .ok (.aload_n 1, 1) := by decide +kernel
theorem dX2_copyFrom_55 : decode cX2_copyFrom 55 = .ok (.getfield 18, 3) := by decide +kernel
theorem dX2_copyFrom_58 : decode cX2_copyFrom 58 = .ok (.iconst 0, 1) := by decide +kernel
theorem dX2_copyFrom_59 : decode cX2_copyFrom 59 = .ok (.aload_n 0, 1) := by decide +kernel
theorem dX2_copyFrom_60 : decode cX2_copyFrom 60 = .ok (.getfield 18, 3) := by decide +kernel
theorem dX2_copyFrom_63 : decode cX2_copyFrom 63 = .ok (.iconst 0, 1) := by decide +kernel
theorem dX2_copyFrom_64 : decode cX2_copyFrom 64 = .ok (.bipush 32, 2) := by decide +kernel
theorem dX2_copyFrom_66 : decode cX2_copyFrom 66 = .ok (.invokestatic 32, 3) := by decide +kernel
theorem dX2_copyFrom_69 : decode cX2_copyFrom 69 = .ok (.return_, 1) := by decide +kernel
set_option maxRecDepth 100000 in
theorem ggX2_takeVersion_X9_durationOf : GoodIn wsX2_takeVersion wsX9_durationOf := goodIn_r _ [13, 14, 15, 22, 23, 24, 25, 26, 27, 28, 29] rfl (by decide +kernel)
set_option maxRecDepth 100000 in
theorem gX2_takeVersion_X9_durationOf : GoodIn wsX2_takeVersion (wsV RX2 44 RX9 yX9_durationOf wsX9_durationOf) := goodIn_app (goodIn_of _ (by decide +kernel)) ggX2_takeVersion_X9_durationOf
theorem dX2_takeVersion_0 : decode cX2_takeVersion 0 = .ok (.aload_n 0, 1) := by decide +kernel
theorem dX2_takeVersion_1 : decode cX2_takeVersion 1 = .ok (.iconst 1, 1) := by decide +kernel
theorem dX2_takeVersion_2 : decode cX2_takeVersion 2 = .ok (.putfield 21, 3) := by decide +kernel
theorem dX2_takeVersion_5 : decode cX2_takeVersion 5 = .ok (.aload_n 0, 1) := by decide +kernel
theorem dX2_takeVersion_6 : decode cX2_takeVersion 6 = .ok (.aload_n 1, 1) := by decide +kernel
theorem dX2_takeVersion_7 : decode cX2_takeVersion 7 = .ok (.getfield 38, 3) := by decide +kernel
theorem dX2_takeVersion_10 : decode cX2_takeVersion 10 = .ok (.putfield 25, 3) := by decide +kernel
theorem dX2_takeVersion_13 : decode cX2_takeVersion 13 = .ok (.aload_n 0, 1) := by decide +kernel
theorem dX2_takeVersion_14 : decode cX2_takeVersion 14 = .ok (.iconst 0, 1) := by decide +kernel
theorem dX2_takeVersion_15 : decode cX2_takeVersion 15 = .ok (.putfield 29, 3) := by decide +kernel
theorem dX2_takeVersion_18 : decode cX2_takeVersion 18 = .ok (.iconst 0, 1) := by decide +kernel
theorem dX2_takeVersion_19 : decode cX2_takeVersion 19 = .ok (.istore_n 2, 1) := by decide +kernel
theorem dX2_takeVersion_20 : decode cX2_takeVersion 20 = .ok (.iload_n 2, 1) := by decide +kernel
theorem dX2_takeVersion_21 : decode cX2_takeVersion 21 = .ok (.aload_n 0, 1) := by decide +kernel
theorem dX2_takeVersion_22 : decode cX2_takeVersion 22 = .ok (.getfield 25, 3) := by decide +kernel
theorem dX2_takeVersion_25 : decode cX2_takeVersion 25 = .ok (.if_icmp .ge 57, 3) := by decide +kernel
theorem dX2_takeVersion_28 : decode cX2_takeVersion 28 = .ok (.aload_n 0, 1) := by decide +kernel
theorem dX2_takeVersion_29 : decode cX2_takeVersion 29 = .ok (.getfield 9, 3) := by decide +kernel
theorem dX2_takeVersion_32 : decode cX2_takeVersion 32 = .ok (.iload_n 2, 1) := by decide +kernel
theorem dX2_takeVersion_33 : decode cX2_takeVersion 33 = .ok (.aload_n 1, 1) := by decide +kernel
theorem dX2_takeVersion_34 : decode cX2_takeVersion 34 = .ok (.getfield 41, 3) := by decide +kernel
theorem dX2_takeVersion_37 : decode cX2_takeVersion 37 = .ok (.iload_n 2, 1) := by decide +kernel
theorem dX2_takeVersion_38 : decode cX2_takeVersion 38 = .ok (.iaload, 1) := by decide +kernel
theorem dX2_takeVersion_39 : decode cX2_takeVersion 39 = .ok (.iastore, 1) := by decide +kernel
theorem dX2_takeVersion_40 : decode cX2_takeVersion 40 = .ok (.aload_n 0, 1) := by decide +kernel
theorem dX2_takeVersion_41 : decode cX2_takeVersion 41 = .ok (.getfield 15, 3) := by decide +kernel
theorem dX2_takeVersion_44 : decode cX2_takeVersion 44 = .ok (.iload_n 2, 1) := by decide +kernel
theorem dX2_takeVersion_45 : decode cX2_takeVersion 45 = .ok (.aload_n 0, 1) := by decide +kernel
theorem dX2_takeVersion_46 : decode cX2_takeVersion 46 = .ok (.getfield 29, 3) := by decide +kernel
theorem dX2_takeVersion_49 : decode cX2_takeVersion 49 = .ok (.iastore, 1) := by decide +kernel
theorem dX2_takeVersion_50 : decode cX2_takeVersion 50 = .ok (.aload_n 0, 1) := by decide +kernel
theorem dX2_takeVersion_51 : decode cX2_takeVersion 51 = .ok (.getfield 18, 3) := by decide +kernel
theorem dX2_takeVersion_54 : decode cX2_takeVersion 54 = .ok (.iload_n 2, 1) := by decide +kernel
theorem dX2_takeVersion_55 : decode cX2_takeVersion 55 = .ok (.aload_n 1, 1) := by decide +kernel
theorem dX2_takeVersion_56 : decode cX2_takeVersion 56 = .ok (.iload_n 2, 1) := by decide +kernel
theorem dX2_takeVersion_57 : decode cX2_takeVersion 57 = .ok (.invokevirtual 44, 3) := by decide +kernel
theorem dX2_takeVersion_60 : decode cX2_takeVersion 60 = .ok (.iastore, 1) := by decide +kernel
theorem dX2_takeVersion_61 : decode cX2_takeVersion 61 = .ok (.aload_n 0, 1) := by decide +kernel
theorem dX2_takeVersion_62 : decode cX2_takeVersion 62 = .ok (.dup, 1) := by decide +kernel
theorem dX2_takeVersion_63 : decode cX2_takeVersion 63 = .ok (.getfield 29, 3) := by decide +kernel
theorem dX2_takeVersion_66 : decode cX2_takeVersion 66 = .ok (.aload_n 0, 1) := by decide +kernel
theorem dX2_takeVersion_67 : decode cX2_takeVersion 67 = .ok (.getfield 18, 3) := by decide +kernel
theorem dX2_takeVersion_70 : decode cX2_takeVersion 70 = .ok (.iload_n 2, 1) := by decide +kernel
theorem dX2_takeVersion_71 : decode cX2_takeVersion 71 = .ok (.iaload, 1) := by decide +kernel
theorem dX2_takeVersion_72 : decode cX2_takeVersion 72 = .ok (.iadd, 1) := by decide +kernel
theorem dX2_takeVersion_73 : decode cX2_takeVersion 73 = .ok (.putfield 29, 3) := by decide +kernel
theorem dX2_takeVersion_76 : decode cX2_takeVersion 76 = .ok (.iinc 2 1, 3) := by decide +kernel
theorem dX2_takeVersion_79 : decode cX2_takeVersion 79 = .ok (.goto (-59), 3) := by decide +kernel
theorem dX2_takeVersion_82 : decode cX2_takeVersion 82 = .ok (.return_, 1) := by decide +kernel
set_option maxRecDepth 100000 in
theorem ggX2_carry_X9_segmentOfRow : GoodIn wsX2_carry wsX9_segmentOfRow := goodIn_r _ [17, 18, 19, 36, 37, 38, 39, 40, 41, 42, 43] rfl (by decide +kernel)
set_option maxRecDepth 100000 in
theorem gX2_carry_X9_segmentOfRow : GoodIn wsX2_carry (wsV RX2 48 RX9 yX9_segmentOfRow wsX9_segmentOfRow) := goodIn_app (goodIn_of _ (by decide +kernel)) ggX2_carry_X9_segmentOfRow
set_option maxRecDepth 100000 in
theorem ggX2_carry_X9_startOf : GoodIn wsX2_carry wsX9_startOf := goodIn_r _ [23, 24, 25, 26, 16, 27, 28, 19, 36, 37, 38, 39, 40, 41, 42, 43] rfl (by decide +kernel)
set_option maxRecDepth 100000 in
theorem gX2_carry_X9_startOf : GoodIn wsX2_carry (wsV RX2 57 RX9 yX9_startOf wsX9_startOf) := goodIn_app (goodIn_of _ (by decide +kernel)) ggX2_carry_X9_startOf
set_option maxRecDepth 100000 in
theorem ggX2_carry_X9_durationOf : GoodIn wsX2_carry wsX9_durationOf := goodIn_r _ [27, 28, 19, 36, 37, 38, 39, 40, 41, 42, 43] rfl (by decide +kernel)
set_option maxRecDepth 100000 in
theorem gX2_carry_X9_durationOf : GoodIn wsX2_carry (wsV RX2 44 RX9 yX9_durationOf wsX9_durationOf) := goodIn_app (goodIn_of _ (by decide +kernel)) ggX2_carry_X9_durationOf
theorem dX2_carry_0 : decode cX2_carry 0 = .ok (.iconst 0, 1) := by decide +kernel
theorem dX2_carry_1 : decode cX2_carry 1 = .ok (.istore_n 3, 1) := by decide +kernel
theorem dX2_carry_2 : decode cX2_carry 2 = .ok (.iload_n 3, 1) := by decide +kernel
theorem dX2_carry_3 : decode cX2_carry 3 = .ok (.aload_n 0, 1) := by decide +kernel
theorem dX2_carry_4 : decode cX2_carry 4 = .ok (.getfield 25, 3) := by decide +kernel
theorem dX2_carry_7 : decode cX2_carry 7 = .ok (.if_icmp .ge 80, 3) := by decide +kernel
theorem dX2_carry_10 : decode cX2_carry 10 = .ok (.iload_n 1, 1) := by decide +kernel
theorem dX2_carry_11 : decode cX2_carry 11 = .ok (.aload_n 0, 1) := by decide +kernel
theorem dX2_carry_12 : decode cX2_carry 12 = .ok (.getfield 15, 3) := by decide +kernel
theorem dX2_carry_15 : decode cX2_carry 15 = .ok (.iload_n 3, 1) := by decide +kernel
theorem dX2_carry_16 : decode cX2_carry 16 = .ok (.iaload, 1) := by decide +kernel
theorem dX2_carry_17 : decode cX2_carry 17 = .ok (.aload_n 0, 1) := by decide +kernel
theorem dX2_carry_18 : decode cX2_carry 18 = .ok (.getfield 18, 3) := by decide +kernel
theorem dX2_carry_21 : decode cX2_carry 21 = .ok (.iload_n 3, 1) := by decide +kernel
theorem dX2_carry_22 : decode cX2_carry 22 = .ok (.iaload, 1) := by decide +kernel
theorem dX2_carry_23 : decode cX2_carry 23 = .ok (.iadd, 1) := by decide +kernel
theorem dX2_carry_24 : decode cX2_carry 24 = .ok (.if_icmp .lt 6, 3) := by decide +kernel
theorem dX2_carry_27 : decode cX2_carry 27 = .ok (.goto 54, 3) := by decide +kernel
theorem dX2_carry_30 : decode cX2_carry 30 = .ok (.aload_n 2, 1) := by decide +kernel
theorem dX2_carry_31 : decode cX2_carry 31 = .ok (.aload_n 0, 1) := by decide +kernel
theorem dX2_carry_32 : decode cX2_carry 32 = .ok (.getfield 9, 3) := by decide +kernel
theorem dX2_carry_35 : decode cX2_carry 35 = .ok (.iload_n 3, 1) := by decide +kernel
theorem dX2_carry_36 : decode cX2_carry 36 = .ok (.iaload, 1) := by decide +kernel
theorem dX2_carry_37 : decode cX2_carry 37 = .ok (.invokevirtual 48, 3) := by decide +kernel
theorem dX2_carry_40 : decode cX2_carry 40 = .ok (.istore 4, 2) := by decide +kernel
theorem dX2_carry_42 : decode cX2_carry 42 = .ok (.iload 4, 2) := by decide +kernel
theorem dX2_carry_44 : decode cX2_carry 44 = .ok (.iconst (-1), 1) := by decide +kernel
theorem dX2_carry_45 : decode cX2_carry 45 = .ok (.if_icmp .eq 36, 3) := by decide +kernel
theorem dX2_carry_48 : decode cX2_carry 48 = .ok (.iconst 0, 1) := by decide +kernel
theorem dX2_carry_49 : decode cX2_carry 49 = .ok (.iload_n 1, 1) := by decide +kernel
theorem dX2_carry_50 : decode cX2_carry 50 = .ok (.aload_n 0, 1) := by decide +kernel
theorem dX2_carry_51 : decode cX2_carry 51 = .ok (.getfield 15, 3) := by decide +kernel
theorem dX2_carry_54 : decode cX2_carry 54 = .ok (.iload_n 3, 1) := by decide +kernel
theorem dX2_carry_55 : decode cX2_carry 55 = .ok (.iaload, 1) := by decide +kernel
theorem dX2_carry_56 : decode cX2_carry 56 = .ok (.isub, 1) := by decide +kernel
theorem dX2_carry_57 : decode cX2_carry 57 = .ok (.invokestatic 51, 3) := by decide +kernel
theorem dX2_carry_60 : decode cX2_carry 60 = .ok (.istore 5, 2) := by decide +kernel
theorem dX2_carry_62 : decode cX2_carry 62 = .ok (.aload_n 2, 1) := by decide +kernel
theorem dX2_carry_63 : decode cX2_carry 63 = .ok (.iload 4, 2) := by decide +kernel
theorem dX2_carry_65 : decode cX2_carry 65 = .ok (.invokevirtual 57, 3) := by decide +kernel
theorem dX2_carry_68 : decode cX2_carry 68 = .ok (.iload 5, 2) := by decide +kernel
theorem dX2_carry_70 : decode cX2_carry 70 = .ok (.aload_n 2, 1) := by decide +kernel
theorem dX2_carry_71 : decode cX2_carry 71 = .ok (.iload 4, 2) := by decide +kernel
theorem dX2_carry_73 : decode cX2_carry 73 = .ok (.invokevirtual 44, 3) := by decide +kernel
theorem dX2_carry_76 : decode cX2_carry 76 = .ok (.invokestatic 60, 3) := by decide +kernel
theorem dX2_carry_79 : decode cX2_carry 79 = .ok (.iadd, 1) := by decide +kernel
theorem dX2_carry_80 : decode cX2_carry 80 = .ok (.ireturn, 1) := by decide +kernel
theorem dX2_carry_81 : decode cX2_carry 81 = .ok (.iinc 3 1, 3) := by decide +kernel
theorem dX2_carry_84 : decode cX2_carry 84 = .ok (.goto (-82), 3) := by decide +kernel
theorem dX2_carry_87 : decode cX2_carry 87 = .ok (.aload_n 2, 1) := by decide +kernel
theorem dX2_carry_88 : decode cX2_carry 88 = .ok (.aload_n 2, 1) := by decide +kernel
theorem dX2_carry_89 : decode cX2_carry 89 = .ok (.getfield 38, 3) := by decide +kernel
theorem dX2_carry_92 : decode cX2_carry 92 = .ok (.invokevirtual 57, 3) := by decide +kernel
theorem dX2_carry_95 : decode cX2_carry 95 = .ok (.ireturn, 1) := by decide +kernel
theorem dX3_init_0 : decode cX3_init 0 = .ok (.aload_n 0, 1) := by decide +kernel
theorem dX3_init_1 : decode cX3_init 1 = .ok (.invokespecial 3, 3) := by decide +kernel
theorem dX3_init_4 : decode cX3_init 4 = .ok (.aload_n 0, 1) := by decide +kernel
theorem dX3_init_5 : decode cX3_init 5 = .ok (.sipush 1056, 3) := by decide +kernel
theorem dX3_init_8 : decode cX3_init 8 = .ok (.newarray .int, 2) := by decide +kernel
theorem dX3_init_10 : decode cX3_init 10 = .ok (.putfield 9, 3) := by decide +kernel
theorem dX3_init_13 : decode cX3_init 13 = .ok (.return_, 1) := by decide +kernel
theorem dX3_clear_0 : decode cX3_clear 0 = .ok (.aload_n 0, 1) := by decide +kernel
theorem dX3_clear_1 : decode cX3_clear 1 = .ok (.iconst 0, 1) := by decide +kernel
theorem dX3_clear_2 : decode cX3_clear 2 = .ok (.putfield 15, 3) := by decide +kernel
theorem dX3_clear_5 : decode cX3_clear 5 = .ok (.return_, 1) := by decide +kernel
theorem dX3_put_0 : decode cX3_put 0 = .ok (.aload_n 0, 1) := by decide +kernel
theorem dX3_put_1 : decode cX3_put 1 = .ok (.getfield 15, 3) := by decide +kernel
theorem dX3_put_4 : decode cX3_put 4 = .ok (.sipush 1056, 3) := by decide +kernel
theorem dX3_put_7 : decode cX3_put 7 = .ok (.if_icmp .ge 23, 3) := by decide +kernel
theorem dX3_put_10 : decode cX3_put 10 = .ok (.aload_n 0, 1) := by decide +kernel
theorem dX3_put_11 : decode cX3_put 11 = .ok (.getfield 9, 3) := by decide +kernel
theorem dX3_put_14 : decode cX3_put 14 = .ok (.aload_n 0, 1) := by decide +kernel
theorem dX3_put_15 : decode cX3_put 15 = .ok (.getfield 15, 3) := by decide +kernel
theorem dX3_put_18 : decode cX3_put 18 = .ok (.iload_n 1, 1) := by decide +kernel
theorem dX3_put_19 : decode cX3_put 19 = .ok (.iastore, 1) := by decide +kernel
theorem dX3_put_20 : decode cX3_put 20 = .ok (.aload_n 0, 1) := by decide +kernel
theorem dX3_put_21 : decode cX3_put 21 = .ok (.dup, 1) := by decide +kernel
theorem dX3_put_22 : decode cX3_put 22 = .ok (.getfield 15, 3) := by decide +kernel
theorem dX3_put_25 : decode cX3_put 25 = .ok (.iconst 1, 1) := by decide +kernel
theorem dX3_put_26 : decode cX3_put 26 = .ok (.iadd, 1) := by decide +kernel
theorem dX3_put_27 : decode cX3_put 27 = .ok (.putfield 15, 3) := by decide +kernel
theorem dX3_put_30 : decode cX3_put 30 = .ok (.return_, 1) := by decide +kernel
set_option maxRecDepth 100000 in
theorem ggX3_putNumber_X3_put : GoodIn wsX3_putNumber wsX3_put := goodIn_r _ [6, 7, 8, 9, 10] rfl (by decide +kernel)
set_option maxRecDepth 100000 in
theorem gX3_putNumber_X3_put : GoodIn wsX3_putNumber (wsV RX3 20 RX3 yX3_put wsX3_put) := goodIn_app (goodIn_of _ (by decide +kernel)) ggX3_putNumber_X3_put
theorem dX3_putNumber_0 : decode cX3_putNumber 0 = .ok (.ldc 19, 2) := by decide +kernel
theorem dX3_putNumber_2 : decode cX3_putNumber 2 = .ok (.istore_n 2, 1) := by decide +kernel
theorem dX3_putNumber_3 : decode cX3_putNumber 3 = .ok (.iload_n 2, 1) := by decide +kernel
theorem dX3_putNumber_4 : decode cX3_putNumber 4 = .ok (.ifCond .le 35, 3) := by decide +kernel
theorem dX3_putNumber_7 : decode cX3_putNumber 7 = .ok (.iload_n 1, 1) := by decide +kernel
theorem dX3_putNumber_8 : decode cX3_putNumber 8 = .ok (.iload_n 2, 1) := by decide +kernel
theorem dX3_putNumber_9 : decode cX3_putNumber 9 = .ok (.if_icmp .ge 8, 3) := by decide +kernel
theorem dX3_putNumber_12 : decode cX3_putNumber 12 = .ok (.iload_n 2, 1) := by decide +kernel
theorem dX3_putNumber_13 : decode cX3_putNumber 13 = .ok (.iconst 1, 1) := by decide +kernel
theorem dX3_putNumber_14 : decode cX3_putNumber 14 = .ok (.if_icmp .ne 17, 3) := by decide +kernel
theorem dX3_putNumber_17 : decode cX3_putNumber 17 = .ok (.aload_n 0, 1) := by decide +kernel
theorem dX3_putNumber_18 : decode cX3_putNumber 18 = .ok (.bipush 48, 2) := by decide +kernel
theorem dX3_putNumber_20 : decode cX3_putNumber 20 = .ok (.iload_n 1, 1) := by decide +kernel
theorem dX3_putNumber_21 : decode cX3_putNumber 21 = .ok (.iload_n 2, 1) := by decide +kernel
theorem dX3_putNumber_22 : decode cX3_putNumber 22 = .ok (.idiv, 1) := by decide +kernel
theorem dX3_putNumber_23 : decode cX3_putNumber 23 = .ok (.bipush 10, 2) := by decide +kernel
theorem dX3_putNumber_25 : decode cX3_putNumber 25 = .ok (.irem, 1) := by decide +kernel
theorem dX3_putNumber_26 : decode cX3_putNumber 26 = .ok (.iadd, 1) := by decide +kernel
theorem dX3_putNumber_27 : decode cX3_putNumber 27 = .ok (.i2c, 1) := by decide +kernel
theorem dX3_putNumber_28 : decode cX3_putNumber 28 = .ok (.invokevirtual 20, 3) := by decide +kernel
theorem dX3_putNumber_31 : decode cX3_putNumber 31 = .ok (.iload_n 2, 1) := by decide +kernel
theorem dX3_putNumber_32 : decode cX3_putNumber 32 = .ok (.bipush 10, 2) := by decide +kernel
theorem dX3_putNumber_34 : decode cX3_putNumber 34 = .ok (.idiv, 1) := by decide +kernel
theorem dX3_putNumber_35 : decode cX3_putNumber 35 = .ok (.istore_n 2, 1) := by decide +kernel
theorem dX3_putNumber_36 : decode cX3_putNumber 36 = .ok (.goto (-33), 3) := by decide +kernel
theorem dX3_putNumber_39 : decode cX3_putNumber 39 = .ok (.return_, 1) := by decide +kernel
set_option maxRecDepth 100000 in
theorem ggX3_putName_X3_put : GoodIn wsX3_putName wsX3_put := goodIn_r _ [6, 7, 8, 9, 10] rfl (by decide +kernel)
set_option maxRecDepth 100000 in
theorem gX3_putName_X3_put : GoodIn wsX3_putName (wsV RX3 20 RX3 yX3_put wsX3_put) := goodIn_app (goodIn_of _ (by decide +kernel)) ggX3_putName_X3_put
theorem dX3_putName_0 : decode cX3_putName 0 = .ok (.bipush 35, 2) := by decide +kernel
theorem dX3_putName_2 : decode cX3_putName 2 = .ok (.istore_n 3, 1) := by decide +kernel
theorem dX3_putName_3 : decode cX3_putName 3 = .ok (.iload_n 3, 1) := by decide +kernel
theorem dX3_putName_4 : decode cX3_putName 4 = .ok (.ifCond .lt 34, 3) := by decide +kernel
theorem dX3_putName_7 : decode cX3_putName 7 = .ok (.lload_n 1, 1) := by decide +kernel
theorem dX3_putName_8 : decode cX3_putName 8 = .ok (.iload_n 3, 1) := by decide +kernel
theorem dX3_putName_9 : decode cX3_putName 9 = .ok (.lushr, 1) := by decide +kernel
theorem dX3_putName_10 : decode cX3_putName 10 = .ok (.ldc2_w 24, 3) := by decide +kernel
theorem dX3_putName_13 : decode cX3_putName 13 = .ok (.land, 1) := by decide +kernel
theorem dX3_putName_14 : decode cX3_putName 14 = .ok (.l2i, 1) := by decide +kernel
theorem dX3_putName_15 : decode cX3_putName 15 = .ok (.istore 4, 2) := by decide +kernel
theorem dX3_putName_17 : decode cX3_putName 17 = .ok (.iload 4, 2) := by decide +kernel
theorem dX3_putName_19 : decode cX3_putName 19 = .ok (.ifCond .le 13, 3) := by decide +kernel
theorem dX3_putName_22 : decode cX3_putName 22 = .ok (.aload_n 0, 1) := by decide +kernel
theorem dX3_putName_23 : decode cX3_putName 23 = .ok (.bipush 96, 2) := by decide +kernel
theorem dX3_putName_25 : decode cX3_putName 25 = .ok (.iload 4, 2) := by decide +kernel
theorem dX3_putName_27 : decode cX3_putName 27 = .ok (.iadd, 1) := by decide +kernel
theorem dX3_putName_28 : decode cX3_putName 28 = .ok (.i2c, 1) := by decide +kernel
theorem dX3_putName_29 : decode cX3_putName 29 = .ok (.invokevirtual 20, 3) := by decide +kernel
theorem dX3_putName_32 : decode cX3_putName 32 = .ok (.iinc 3 (-5), 3) := by decide +kernel
theorem dX3_putName_35 : decode cX3_putName 35 = .ok (.goto (-32), 3) := by decide +kernel
theorem dX3_putName_38 : decode cX3_putName 38 = .ok (.return_, 1) := by decide +kernel
theorem dX4_init_0 : decode cX4_init 0 = .ok (.aload_n 0, 1) := by decide +kernel
theorem dX4_init_1 : decode cX4_init 1 = .ok (.invokespecial 3, 3) := by decide +kernel
theorem dX4_init_4 : decode cX4_init 4 = .ok (.aload_n 0, 1) := by decide +kernel
theorem dX4_init_5 : decode cX4_init 5 = .ok (.iconst 5, 1) := by decide +kernel
theorem dX4_init_6 : decode cX4_init 6 = .ok (.newarray .int, 2) := by decide +kernel
theorem dX4_init_8 : decode cX4_init 8 = .ok (.putfield 9, 3) := by decide +kernel
theorem dX4_init_11 : decode cX4_init 11 = .ok (.aload_n 0, 1) := by decide +kernel
theorem dX4_init_12 : decode cX4_init 12 = .ok (.sipush 155, 3) := by decide +kernel
theorem dX4_init_15 : decode cX4_init 15 = .ok (.newarray .int, 2) := by decide +kernel
theorem dX4_init_17 : decode cX4_init 17 = .ok (.putfield 15, 3) := by decide +kernel
theorem dX4_init_20 : decode cX4_init 20 = .ok (.aload_n 0, 1) := by decide +kernel
theorem dX4_init_21 : decode cX4_init 21 = .ok (.bipush 31, 2) := by decide +kernel
theorem dX4_init_23 : decode cX4_init 23 = .ok (.newarray .int, 2) := by decide +kernel
theorem dX4_init_25 : decode cX4_init 25 = .ok (.putfield 18, 3) := by decide +kernel
theorem dX4_init_28 : decode cX4_init 28 = .ok (.aload_n 0, 1) := by decide +kernel
theorem dX4_init_29 : decode cX4_init 29 = .ok (.bipush 31, 2) := by decide +kernel
theorem dX4_init_31 : decode cX4_init 31 = .ok (.newarray .boolean, 2) := by decide +kernel
theorem dX4_init_33 : decode cX4_init 33 = .ok (.putfield 21, 3) := by decide +kernel
theorem dX4_init_36 : decode cX4_init 36 = .ok (.return_, 1) := by decide +kernel
set_option maxRecDepth 100000 in
theorem ggX4_update_X9_boundaryCount : GoodIn wsX4_update wsX9_boundaryCount := goodIn_r _ [12, 13, 76, 77, 78, 79, 80, 81, 82, 83] rfl (by decide +kernel)
set_option maxRecDepth 100000 in
theorem gX4_update_X9_boundaryCount : GoodIn wsX4_update (wsV RX4 31 RX9 yX9_boundaryCount wsX9_boundaryCount) := goodIn_app (goodIn_of _ (by decide +kernel)) ggX4_update_X9_boundaryCount
set_option maxRecDepth 100000 in
theorem ggX4_update_X0_timeOf : GoodIn wsX4_update wsX0_timeOf := goodIn_r _ [18, 19, 84, 85, 86, 87, 88, 89, 90, 91, 92, 93, 94, 95, 96, 97, 98] rfl (by decide +kernel)
set_option maxRecDepth 100000 in
theorem gX4_update_X0_timeOf : GoodIn wsX4_update (wsV RX4 40 RX0 yX0_timeOf wsX0_timeOf) := goodIn_app (goodIn_of _ (by decide +kernel)) ggX4_update_X0_timeOf
set_option maxRecDepth 100000 in
theorem ggX4_update_X0_isCut : GoodIn wsX4_update wsX0_isCut := goodIn_r _ [23, 24, 25, 84, 85, 86, 87, 88, 89, 90, 91, 92, 93, 94, 95, 96, 97, 98] rfl (by decide +kernel)
set_option maxRecDepth 100000 in
theorem gX4_update_X0_isCut : GoodIn wsX4_update (wsV RX4 46 RX0 yX0_isCut wsX0_isCut) := goodIn_app (goodIn_of _ (by decide +kernel)) ggX4_update_X0_isCut
set_option maxRecDepth 100000 in
theorem ggX4_update_X4_leastCost : GoodIn wsX4_update wsX4_leastCost := goodIn_r _ [30, 5, 4, 6, 3, 31, 7, 32, 33, 34, 29, 35, 1, 36, 37, 38, 39, 11, 40, 41, 42, 43, 44, 45, 46, 47, 48, 49, 50, 51, 52, 53, 54, 55, 2, 62, 63, 64, 65, 66, 67, 68, 69, 70, 71, 72, 73, 74, 75, 76, 77, 78, 79, 80, 81, 82, 83] rfl (by decide +kernel)
set_option maxRecDepth 100000 in
theorem gX4_update_X4_leastCost : GoodIn wsX4_update (wsV RX4 59 RX4 yX4_leastCost wsX4_leastCost) := goodIn_app (goodIn_of _ (by decide +kernel)) ggX4_update_X4_leastCost
set_option maxRecDepth 100000 in
theorem ggX4_update_X4_takeBest : GoodIn wsX4_update wsX4_takeBest := goodIn_r _ [59, 60, 5, 6, 7, 61, 3, 31, 52, 53, 54, 29, 55, 2, 66, 67, 68, 69, 70, 71, 62, 63, 64, 65, 72, 73, 74, 75] rfl (by decide +kernel)
set_option maxRecDepth 100000 in
theorem gX4_update_X4_takeBest : GoodIn wsX4_update (wsV RX4 63 RX4 yX4_takeBest wsX4_takeBest) := goodIn_app (goodIn_of _ (by decide +kernel)) ggX4_update_X4_takeBest
theorem dX4_update_0 : decode cX4_update 0 = .ok (.aload_n 0, 1) := by decide +kernel
theorem dX4_update_1 : decode cX4_update 1 = .ok (.aload_n 1, 1) := by decide +kernel
theorem dX4_update_2 : decode cX4_update 2 = .ok (.getfield 25, 3) := by decide +kernel
theorem dX4_update_5 : decode cX4_update 5 = .ok (.invokevirtual 31, 3) := by decide +kernel
theorem dX4_update_8 : decode cX4_update 8 = .ok (.putfield 37, 3) := by decide +kernel
theorem dX4_update_11 : decode cX4_update 11 = .ok (.iconst 0, 1) := by decide +kernel
theorem dX4_update_12 : decode cX4_update 12 = .ok (.istore_n 3, 1) := by decide +kernel
theorem dX4_update_13 : decode cX4_update 13 = .ok (.iload_n 3, 1) := by decide +kernel
theorem dX4_update_14 : decode cX4_update 14 = .ok (.aload_n 0, 1) := by decide +kernel
theorem dX4_update_15 : decode cX4_update 15 = .ok (.getfield 37, 3) := by decide +kernel
theorem dX4_update_18 : decode cX4_update 18 = .ok (.if_icmp .ge 31, 3) := by decide +kernel
theorem dX4_update_21 : decode cX4_update 21 = .ok (.aload_n 0, 1) := by decide +kernel
theorem dX4_update_22 : decode cX4_update 22 = .ok (.getfield 18, 3) := by decide +kernel
theorem dX4_update_25 : decode cX4_update 25 = .ok (.iload_n 3, 1) := by decide +kernel
theorem dX4_update_26 : decode cX4_update 26 = .ok (.aload_n 2, 1) := by decide +kernel
theorem dX4_update_27 : decode cX4_update 27 = .ok (.iload_n 3, 1) := by decide +kernel
theorem dX4_update_28 : decode cX4_update 28 = .ok (.invokevirtual 40, 3) := by decide +kernel
theorem dX4_update_31 : decode cX4_update 31 = .ok (.iastore, 1) := by decide +kernel
theorem dX4_update_32 : decode cX4_update 32 = .ok (.aload_n 0, 1) := by decide +kernel
theorem dX4_update_33 : decode cX4_update 33 = .ok (.getfield 21, 3) := by decide +kernel
theorem dX4_update_36 : decode cX4_update 36 = .ok (.iload_n 3, 1) := by decide +kernel
theorem dX4_update_37 : decode cX4_update 37 = .ok (.aload_n 2, 1) := by decide +kernel
theorem dX4_update_38 : decode cX4_update 38 = .ok (.iload_n 3, 1) := by decide +kernel
theorem dX4_update_39 : decode cX4_update 39 = .ok (.invokevirtual 46, 3) := by decide +kernel
theorem dX4_update_42 : decode cX4_update 42 = .ok (.bastore, 1) := by decide +kernel
theorem dX4_update_43 : decode cX4_update 43 = .ok (.iinc 3 1, 3) := by decide +kernel
theorem dX4_update_46 : decode cX4_update 46 = .ok (.goto (-33), 3) := by decide +kernel
theorem dX4_update_49 : decode cX4_update 49 = .ok (.aload_n 1, 1) := by decide +kernel
theorem dX4_update_50 : decode cX4_update 50 = .ok (.getfield 50, 3) := by decide +kernel
theorem dX4_update_53 : decode cX4_update 53 = .ok (.getfield 54, 3) := by decide +kernel
theorem dX4_update_56 : decode cX4_update 56 = .ok (.iconst 1, 1) := by decide +kernel
theorem dX4_update_57 : decode cX4_update 57 = .ok (.isub, 1) := by decide +kernel
theorem dX4_update_58 : decode cX4_update 58 = .ok (.istore_n 3, 1) := by decide +kernel
theorem dX4_update_59 : decode cX4_update 59 = .ok (.iload_n 3, 1) := by decide +kernel
theorem dX4_update_60 : decode cX4_update 60 = .ok (.ifCond .lt 47, 3) := by decide +kernel
theorem dX4_update_63 : decode cX4_update 63 = .ok (.iconst 0, 1) := by decide +kernel
theorem dX4_update_64 : decode cX4_update 64 = .ok (.istore 4, 2) := by decide +kernel
theorem dX4_update_66 : decode cX4_update 66 = .ok (.iload 4, 2) := by decide +kernel
theorem dX4_update_68 : decode cX4_update 68 = .ok (.aload_n 0, 1) := by decide +kernel
theorem dX4_update_69 : decode cX4_update 69 = .ok (.getfield 37, 3) := by decide +kernel
theorem dX4_update_72 : decode cX4_update 72 = .ok (.if_icmp .ge 29, 3) := by decide +kernel
theorem dX4_update_75 : decode cX4_update 75 = .ok (.aload_n 0, 1) := by decide +kernel
theorem dX4_update_76 : decode cX4_update 76 = .ok (.getfield 15, 3) := by decide +kernel
theorem dX4_update_79 : decode cX4_update 79 = .ok (.iload_n 3, 1) := by decide +kernel
theorem dX4_update_80 : decode cX4_update 80 = .ok (.bipush 31, 2) := by decide +kernel
theorem dX4_update_82 : decode cX4_update 82 = .ok (.imul, 1) := by decide +kernel
theorem dX4_update_83 : decode cX4_update 83 = .ok (.iload 4, 2) := by decide +kernel
theorem dX4_update_85 : decode cX4_update 85 = .ok (.iadd, 1) := by decide +kernel
theorem dX4_update_86 : decode cX4_update 86 = .ok (.aload_n 0, 1) := by decide +kernel
theorem dX4_update_87 : decode cX4_update 87 = .ok (.aload_n 1, 1) := by decide +kernel
theorem dX4_update_88 : decode cX4_update 88 = .ok (.iload_n 3, 1) := by decide +kernel
theorem dX4_update_89 : decode cX4_update 89 = .ok (.iload 4, 2) := by decide +kernel
theorem dX4_update_91 : decode cX4_update 91 = .ok (.invokevirtual 59, 3) := by decide +kernel
theorem dX4_update_94 : decode cX4_update 94 = .ok (.iastore, 1) := by decide +kernel
theorem dX4_update_95 : decode cX4_update 95 = .ok (.iinc 4 1, 3) := by decide +kernel
theorem dX4_update_98 : decode cX4_update 98 = .ok (.goto (-32), 3) := by decide +kernel
theorem dX4_update_101 : decode cX4_update 101 = .ok (.iinc 3 (-1), 3) := by decide +kernel
theorem dX4_update_104 : decode cX4_update 104 = .ok (.goto (-45), 3) := by decide +kernel
theorem dX4_update_107 : decode cX4_update 107 = .ok (.aload_n 0, 1) := by decide +kernel
theorem dX4_update_108 : decode cX4_update 108 = .ok (.aload_n 1, 1) := by decide +kernel
theorem dX4_update_109 : decode cX4_update 109 = .ok (.invokevirtual 63, 3) := by decide +kernel
theorem dX4_update_112 : decode cX4_update 112 = .ok (.return_, 1) := by decide +kernel
set_option maxRecDepth 100000 in
theorem ggX4_leastCost_X4_isChoice : GoodIn wsX4_leastCost wsX4_isChoice := goodIn_r _ [11, 12, 5, 1, 13, 14, 15, 16, 17, 18, 19, 20, 21, 22, 23, 10, 24, 4, 25, 26, 27, 28, 29, 35, 36, 37, 38, 45, 46, 47, 48, 49, 50, 51, 52, 53, 54, 55, 56, 39, 40, 41, 42, 43, 44] rfl (by decide +kernel)
set_option maxRecDepth 100000 in
theorem gX4_leastCost_X4_isChoice : GoodIn wsX4_leastCost (wsV RX4 67 RX4 yX4_isChoice wsX4_isChoice) := goodIn_app (goodIn_of _ (by decide +kernel)) ggX4_leastCost_X4_isChoice
set_option maxRecDepth 100000 in
theorem ggX4_leastCost_X4_distance : GoodIn wsX4_leastCost wsX4_distance := goodIn_r _ [24, 4, 25, 26, 27, 28, 29, 39, 40, 41, 42, 43, 44, 45, 46, 47, 48] rfl (by decide +kernel)
set_option maxRecDepth 100000 in
theorem gX4_leastCost_X4_distance : GoodIn wsX4_leastCost (wsV RX4 71 RX4 yX4_distance wsX4_distance) := goodIn_app (goodIn_of _ (by decide +kernel)) ggX4_leastCost_X4_distance
set_option maxRecDepth 100000 in
theorem ggX4_leastCost_X4_cheapest : GoodIn wsX4_leastCost wsX4_cheapest := goodIn_r _ [33, 34, 6, 4, 39, 40, 41, 42, 43, 44] rfl (by decide +kernel)
set_option maxRecDepth 100000 in
theorem gX4_leastCost_X4_cheapest : GoodIn wsX4_leastCost (wsV RX4 78 RX4 yX4_cheapest wsX4_cheapest) := goodIn_app (goodIn_of _ (by decide +kernel)) ggX4_leastCost_X4_cheapest
theorem dX4_leastCost_0 : decode cX4_leastCost 0 = .ok (.aload_n 0, 1) := by decide +kernel
theorem dX4_leastCost_1 : decode cX4_leastCost 1 = .ok (.aload_n 1, 1) := by decide +kernel
theorem dX4_leastCost_2 : decode cX4_leastCost 2 = .ok (.iload_n 2, 1) := by decide +kernel
theorem dX4_leastCost_3 : decode cX4_leastCost 3 = .ok (.iload_n 3, 1) := by decide +kernel
theorem dX4_leastCost_4 : decode cX4_leastCost 4 = .ok (.invokevirtual 67, 3) := by decide +kernel
theorem dX4_leastCost_7 : decode cX4_leastCost 7 = .ok (.ifCond .ne 5, 3) := by decide +kernel
theorem dX4_leastCost_10 : decode cX4_leastCost 10 = .ok (.iconst (-1), 1) := by decide +kernel
theorem dX4_leastCost_11 : decode cX4_leastCost 11 = .ok (.ireturn, 1) := by decide +kernel
theorem dX4_leastCost_12 : decode cX4_leastCost 12 = .ok (.aload_n 0, 1) := by decide +kernel
theorem dX4_leastCost_13 : decode cX4_leastCost 13 = .ok (.aload_n 1, 1) := by decide +kernel
theorem dX4_leastCost_14 : decode cX4_leastCost 14 = .ok (.getfield 50, 3) := by decide +kernel
theorem dX4_leastCost_17 : decode cX4_leastCost 17 = .ok (.iload_n 2, 1) := by decide +kernel
theorem dX4_leastCost_18 : decode cX4_leastCost 18 = .ok (.iload_n 3, 1) := by decide +kernel
theorem dX4_leastCost_19 : decode cX4_leastCost 19 = .ok (.invokevirtual 71, 3) := by decide +kernel
theorem dX4_leastCost_22 : decode cX4_leastCost 22 = .ok (.aload_n 0, 1) := by decide +kernel
theorem dX4_leastCost_23 : decode cX4_leastCost 23 = .ok (.getfield 21, 3) := by decide +kernel
theorem dX4_leastCost_26 : decode cX4_leastCost 26 = .ok (.iload_n 3, 1) := by decide +kernel
theorem dX4_leastCost_27 : decode cX4_leastCost 27 = .ok (.baload, 1) := by decide +kernel
theorem dX4_leastCost_28 : decode cX4_leastCost 28 = .ok (.ifCond .eq 7, 3) := by decide +kernel
theorem dX4_leastCost_31 : decode cX4_leastCost 31 = .ok (.iconst 0, 1) := by decide +kernel
theorem dX4_leastCost_32 : decode cX4_leastCost 32 = .ok (.goto 5, 3) := by decide +kernel
theorem dX4_leastCost_35 : decode cX4_leastCost 35 = .ok (.bipush 20, 2) := by decide +kernel
theorem dX4_leastCost_37 : decode cX4_leastCost 37 = .ok (.iadd, 1) := by decide +kernel
theorem dX4_leastCost_38 : decode cX4_leastCost 38 = .ok (.istore 4, 2) := by decide +kernel
theorem dX4_leastCost_40 : decode cX4_leastCost 40 = .ok (.iload_n 2, 1) := by decide +kernel
theorem dX4_leastCost_41 : decode cX4_leastCost 41 = .ok (.iconst 1, 1) := by decide +kernel
theorem dX4_leastCost_42 : decode cX4_leastCost 42 = .ok (.iadd, 1) := by decide +kernel
theorem dX4_leastCost_43 : decode cX4_leastCost 43 = .ok (.aload_n 1, 1) := by decide +kernel
theorem dX4_leastCost_44 : decode cX4_leastCost 44 = .ok (.getfield 50, 3) := by decide +kernel
theorem dX4_leastCost_47 : decode cX4_leastCost 47 = .ok (.getfield 54, 3) := by decide +kernel
theorem dX4_leastCost_50 : decode cX4_leastCost 50 = .ok (.if_icmp .lt 6, 3) := by decide +kernel
theorem dX4_leastCost_53 : decode cX4_leastCost 53 = .ok (.iload 4, 2) := by decide +kernel
theorem dX4_leastCost_55 : decode cX4_leastCost 55 = .ok (.ireturn, 1) := by decide +kernel
theorem dX4_leastCost_56 : decode cX4_leastCost 56 = .ok (.aload_n 0, 1) := by decide +kernel
theorem dX4_leastCost_57 : decode cX4_leastCost 57 = .ok (.iload_n 2, 1) := by decide +kernel
theorem dX4_leastCost_58 : decode cX4_leastCost 58 = .ok (.iconst 1, 1) := by decide +kernel
theorem dX4_leastCost_59 : decode cX4_leastCost 59 = .ok (.iadd, 1) := by decide +kernel
theorem dX4_leastCost_60 : decode cX4_leastCost 60 = .ok (.iload_n 3, 1) := by decide +kernel
theorem dX4_leastCost_61 : decode cX4_leastCost 61 = .ok (.iconst 1, 1) := by decide +kernel
theorem dX4_leastCost_62 : decode cX4_leastCost 62 = .ok (.iadd, 1) := by decide +kernel
theorem dX4_leastCost_63 : decode cX4_leastCost 63 = .ok (.aload_n 0, 1) := by decide +kernel
theorem dX4_leastCost_64 : decode cX4_leastCost 64 = .ok (.getfield 18, 3) := by decide +kernel
theorem dX4_leastCost_67 : decode cX4_leastCost 67 = .ok (.iload_n 3, 1) := by decide +kernel
theorem dX4_leastCost_68 : decode cX4_leastCost 68 = .ok (.iaload, 1) := by decide +kernel
theorem dX4_leastCost_69 : decode cX4_leastCost 69 = .ok (.aload_n 1, 1) := by decide +kernel
theorem dX4_leastCost_70 : decode cX4_leastCost 70 = .ok (.getfield 75, 3) := by decide +kernel
theorem dX4_leastCost_73 : decode cX4_leastCost 73 = .ok (.iconst 5, 1) := by decide +kernel
theorem dX4_leastCost_74 : decode cX4_leastCost 74 = .ok (.iaload, 1) := by decide +kernel
theorem dX4_leastCost_75 : decode cX4_leastCost 75 = .ok (.iadd, 1) := by decide +kernel
theorem dX4_leastCost_76 : decode cX4_leastCost 76 = .ok (.invokevirtual 78, 3) := by decide +kernel
theorem dX4_leastCost_79 : decode cX4_leastCost 79 = .ok (.istore 5, 2) := by decide +kernel
theorem dX4_leastCost_81 : decode cX4_leastCost 81 = .ok (.iload 5, 2) := by decide +kernel
theorem dX4_leastCost_83 : decode cX4_leastCost 83 = .ok (.iconst (-1), 1) := by decide +kernel
theorem dX4_leastCost_84 : decode cX4_leastCost 84 = .ok (.if_icmp .ne 7, 3) := by decide +kernel
theorem dX4_leastCost_87 : decode cX4_leastCost 87 = .ok (.iconst (-1), 1) := by decide +kernel
theorem dX4_leastCost_88 : decode cX4_leastCost 88 = .ok (.goto 20, 3) := by decide +kernel
theorem dX4_leastCost_91 : decode cX4_leastCost 91 = .ok (.iload 4, 2) := by decide +kernel
theorem dX4_leastCost_93 : decode cX4_leastCost 93 = .ok (.aload_n 0, 1) := by decide +kernel
theorem dX4_leastCost_94 : decode cX4_leastCost 94 = .ok (.getfield 15, 3) := by decide +kernel
theorem dX4_leastCost_97 : decode cX4_leastCost 97 = .ok (.iload_n 2, 1) := by decide +kernel
theorem dX4_leastCost_98 : decode cX4_leastCost 98 = .ok (.iconst 1, 1) := by decide +kernel
theorem dX4_leastCost_99 : decode cX4_leastCost 99 = .ok (.iadd, 1) := by decide +kernel
theorem dX4_leastCost_100 : decode cX4_leastCost 100 = .ok (.bipush 31, 2) := by decide +kernel
theorem dX4_leastCost_102 : decode cX4_leastCost 102 = .ok (.imul, 1) := by decide +kernel
theorem dX4_leastCost_103 : decode cX4_leastCost 103 = .ok (.iload 5, 2) := by decide +kernel
theorem dX4_leastCost_105 : decode cX4_leastCost 105 = .ok (.iadd, 1) := by decide +kernel
theorem dX4_leastCost_106 : decode cX4_leastCost 106 = .ok (.iaload, 1) := by decide +kernel
theorem dX4_leastCost_107 : decode cX4_leastCost 107 = .ok (.iadd, 1) := by decide +kernel
theorem dX4_leastCost_108 : decode cX4_leastCost 108 = .ok (.ireturn, 1) := by decide +kernel
theorem dX4_cheapest_0 : decode cX4_cheapest 0 = .ok (.iconst (-1), 1) := by decide +kernel
theorem dX4_cheapest_1 : decode cX4_cheapest 1 = .ok (.istore 4, 2) := by decide +kernel
theorem dX4_cheapest_3 : decode cX4_cheapest 3 = .ok (.iconst (-1), 1) := by decide +kernel
theorem dX4_cheapest_4 : decode cX4_cheapest 4 = .ok (.istore 5, 2) := by decide +kernel
theorem dX4_cheapest_6 : decode cX4_cheapest 6 = .ok (.iload_n 2, 1) := by decide +kernel
theorem dX4_cheapest_7 : decode cX4_cheapest 7 = .ok (.istore 6, 2) := by decide +kernel
theorem dX4_cheapest_9 : decode cX4_cheapest 9 = .ok (.iload 6, 2) := by decide +kernel
theorem dX4_cheapest_11 : decode cX4_cheapest 11 = .ok (.aload_n 0, 1) := by decide +kernel
theorem dX4_cheapest_12 : decode cX4_cheapest 12 = .ok (.getfield 37, 3) := by decide +kernel
theorem dX4_cheapest_15 : decode cX4_cheapest 15 = .ok (.if_icmp .ge 61, 3) := by decide +kernel
theorem dX4_cheapest_18 : decode cX4_cheapest 18 = .ok (.aload_n 0, 1) := by decide +kernel
theorem dX4_cheapest_19 : decode cX4_cheapest 19 = .ok (.getfield 15, 3) := by decide +kernel
theorem dX4_cheapest_22 : decode cX4_cheapest 22 = .ok (.iload_n 1, 1) := by decide +kernel
theorem dX4_cheapest_23 : decode cX4_cheapest 23 = .ok (.bipush 31, 2) := by decide +kernel
theorem dX4_cheapest_25 : decode cX4_cheapest 25 = .ok (.imul, 1) := by decide +kernel
theorem dX4_cheapest_26 : decode cX4_cheapest 26 = .ok (.iload 6, 2) := by decide +kernel
theorem dX4_cheapest_28 : decode cX4_cheapest 28 = .ok (.iadd, 1) := by decide +kernel
theorem dX4_cheapest_29 : decode cX4_cheapest 29 = .ok (.iaload, 1) := by decide +kernel
theorem dX4_cheapest_30 : decode cX4_cheapest 30 = .ok (.istore 7, 2) := by decide +kernel
theorem dX4_cheapest_32 : decode cX4_cheapest 32 = .ok (.iload 7, 2) := by decide +kernel
theorem dX4_cheapest_34 : decode cX4_cheapest 34 = .ok (.iconst (-1), 1) := by decide +kernel
theorem dX4_cheapest_35 : decode cX4_cheapest 35 = .ok (.if_icmp .eq 35, 3) := by decide +kernel
theorem dX4_cheapest_38 : decode cX4_cheapest 38 = .ok (.aload_n 0, 1) := by decide +kernel
theorem dX4_cheapest_39 : decode cX4_cheapest 39 = .ok (.getfield 18, 3) := by decide +kernel
theorem dX4_cheapest_42 : decode cX4_cheapest 42 = .ok (.iload 6, 2) := by decide +kernel
theorem dX4_cheapest_44 : decode cX4_cheapest 44 = .ok (.iaload, 1) := by decide +kernel
theorem dX4_cheapest_45 : decode cX4_cheapest 45 = .ok (.iload_n 3, 1) := by decide +kernel
theorem dX4_cheapest_46 : decode cX4_cheapest 46 = .ok (.if_icmp .lt 24, 3) := by decide +kernel
theorem dX4_cheapest_49 : decode cX4_cheapest 49 = .ok (.iload 4, 2) := by decide +kernel
theorem dX4_cheapest_51 : decode cX4_cheapest 51 = .ok (.iconst (-1), 1) := by decide +kernel
theorem dX4_cheapest_52 : decode cX4_cheapest 52 = .ok (.if_icmp .eq 10, 3) := by decide +kernel
theorem dX4_cheapest_55 : decode cX4_cheapest 55 = .ok (.iload 7, 2) := by decide +kernel
theorem dX4_cheapest_57 : decode cX4_cheapest 57 = .ok (.iload 5, 2) := by decide +kernel
theorem dX4_cheapest_59 : decode cX4_cheapest 59 = .ok (.if_icmp .ge 11, 3) := by decide +kernel
theorem dX4_cheapest_62 : decode cX4_cheapest 62 = .ok (.iload 6, 2) := by decide +kernel
theorem dX4_cheapest_64 : decode cX4_cheapest 64 = .ok (.istore 4, 2) := by decide +kernel
theorem dX4_cheapest_66 : decode cX4_cheapest 66 = .ok (.iload 7, 2) := by decide +kernel
theorem dX4_cheapest_68 : decode cX4_cheapest 68 = .ok (.istore 5, 2) := by decide +kernel
theorem dX4_cheapest_70 : decode cX4_cheapest 70 = .ok (.iinc 6 1, 3) := by decide +kernel
theorem dX4_cheapest_73 : decode cX4_cheapest 73 = .ok (.goto (-64), 3) := by decide +kernel
theorem dX4_cheapest_76 : decode cX4_cheapest 76 = .ok (.iload 4, 2) := by decide +kernel
theorem dX4_cheapest_78 : decode cX4_cheapest 78 = .ok (.ireturn, 1) := by decide +kernel
set_option maxRecDepth 100000 in
theorem ggX4_takeBest_X4_cheapest : GoodIn wsX4_takeBest wsX4_cheapest := goodIn_r _ [12, 13, 4, 6, 14, 15, 16, 17, 18, 19] rfl (by decide +kernel)
set_option maxRecDepth 100000 in
theorem gX4_takeBest_X4_cheapest : GoodIn wsX4_takeBest (wsV RX4 78 RX4 yX4_cheapest wsX4_cheapest) := goodIn_app (goodIn_of _ (by decide +kernel)) ggX4_takeBest_X4_cheapest
theorem dX4_takeBest_0 : decode cX4_takeBest 0 = .ok (.aload_n 0, 1) := by decide +kernel
theorem dX4_takeBest_1 : decode cX4_takeBest 1 = .ok (.iconst 0, 1) := by decide +kernel
theorem dX4_takeBest_2 : decode cX4_takeBest 2 = .ok (.putfield 82, 3) := by decide +kernel
theorem dX4_takeBest_5 : decode cX4_takeBest 5 = .ok (.iconst 0, 1) := by decide +kernel
theorem dX4_takeBest_6 : decode cX4_takeBest 6 = .ok (.istore_n 2, 1) := by decide +kernel
theorem dX4_takeBest_7 : decode cX4_takeBest 7 = .ok (.iconst 0, 1) := by decide +kernel
theorem dX4_takeBest_8 : decode cX4_takeBest 8 = .ok (.istore_n 3, 1) := by decide +kernel
theorem dX4_takeBest_9 : decode cX4_takeBest 9 = .ok (.iconst 0, 1) := by decide +kernel
theorem dX4_takeBest_10 : decode cX4_takeBest 10 = .ok (.istore 4, 2) := by decide +kernel
theorem dX4_takeBest_12 : decode cX4_takeBest 12 = .ok (.iload 4, 2) := by decide +kernel
theorem dX4_takeBest_14 : decode cX4_takeBest 14 = .ok (.aload_n 1, 1) := by decide +kernel
theorem dX4_takeBest_15 : decode cX4_takeBest 15 = .ok (.getfield 50, 3) := by decide +kernel
theorem dX4_takeBest_18 : decode cX4_takeBest 18 = .ok (.getfield 54, 3) := by decide +kernel
theorem dX4_takeBest_21 : decode cX4_takeBest 21 = .ok (.if_icmp .ge 76, 3) := by decide +kernel
theorem dX4_takeBest_24 : decode cX4_takeBest 24 = .ok (.aload_n 0, 1) := by decide +kernel
theorem dX4_takeBest_25 : decode cX4_takeBest 25 = .ok (.iload 4, 2) := by decide +kernel
theorem dX4_takeBest_27 : decode cX4_takeBest 27 = .ok (.iload_n 2, 1) := by decide +kernel
theorem dX4_takeBest_28 : decode cX4_takeBest 28 = .ok (.iload_n 3, 1) := by decide +kernel
theorem dX4_takeBest_29 : decode cX4_takeBest 29 = .ok (.invokevirtual 78, 3) := by decide +kernel
theorem dX4_takeBest_32 : decode cX4_takeBest 32 = .ok (.istore 5, 2) := by decide +kernel
theorem dX4_takeBest_34 : decode cX4_takeBest 34 = .ok (.iload 5, 2) := by decide +kernel
theorem dX4_takeBest_36 : decode cX4_takeBest 36 = .ok (.iconst (-1), 1) := by decide +kernel
theorem dX4_takeBest_37 : decode cX4_takeBest 37 = .ok (.if_icmp .ne 9, 3) := by decide +kernel
theorem dX4_takeBest_40 : decode cX4_takeBest 40 = .ok (.aload_n 0, 1) := by decide +kernel
theorem dX4_takeBest_41 : decode cX4_takeBest 41 = .ok (.iconst (-1), 1) := by decide +kernel
theorem dX4_takeBest_42 : decode cX4_takeBest 42 = .ok (.putfield 82, 3) := by decide +kernel
theorem dX4_takeBest_45 : decode cX4_takeBest 45 = .ok (.return_, 1) := by decide +kernel
theorem dX4_takeBest_46 : decode cX4_takeBest 46 = .ok (.iload 4, 2) := by decide +kernel
theorem dX4_takeBest_48 : decode cX4_takeBest 48 = .ok (.ifCond .ne 14, 3) := by decide +kernel
theorem dX4_takeBest_51 : decode cX4_takeBest 51 = .ok (.aload_n 0, 1) := by decide +kernel
theorem dX4_takeBest_52 : decode cX4_takeBest 52 = .ok (.aload_n 0, 1) := by decide +kernel
theorem dX4_takeBest_53 : decode cX4_takeBest 53 = .ok (.getfield 15, 3) := by decide +kernel
theorem dX4_takeBest_56 : decode cX4_takeBest 56 = .ok (.iload 5, 2) := by decide +kernel
theorem dX4_takeBest_58 : decode cX4_takeBest 58 = .ok (.iaload, 1) := by decide +kernel
theorem dX4_takeBest_59 : decode cX4_takeBest 59 = .ok (.putfield 82, 3) := by decide +kernel
theorem dX4_takeBest_62 : decode cX4_takeBest 62 = .ok (.aload_n 0, 1) := by decide +kernel
theorem dX4_takeBest_63 : decode cX4_takeBest 63 = .ok (.getfield 9, 3) := by decide +kernel
theorem dX4_takeBest_66 : decode cX4_takeBest 66 = .ok (.iload 4, 2) := by decide +kernel
theorem dX4_takeBest_68 : decode cX4_takeBest 68 = .ok (.iload 5, 2) := by decide +kernel
theorem dX4_takeBest_70 : decode cX4_takeBest 70 = .ok (.iastore, 1) := by decide +kernel
theorem dX4_takeBest_71 : decode cX4_takeBest 71 = .ok (.iload 5, 2) := by decide +kernel
theorem dX4_takeBest_73 : decode cX4_takeBest 73 = .ok (.iconst 1, 1) := by decide +kernel
theorem dX4_takeBest_74 : decode cX4_takeBest 74 = .ok (.iadd, 1) := by decide +kernel
theorem dX4_takeBest_75 : decode cX4_takeBest 75 = .ok (.istore_n 2, 1) := by decide +kernel
theorem dX4_takeBest_76 : decode cX4_takeBest 76 = .ok (.aload_n 0, 1) := by decide +kernel
theorem dX4_takeBest_77 : decode cX4_takeBest 77 = .ok (.getfield 18, 3) := by decide +kernel
theorem dX4_takeBest_80 : decode cX4_takeBest 80 = .ok (.iload 5, 2) := by decide +kernel
theorem dX4_takeBest_82 : decode cX4_takeBest 82 = .ok (.iaload, 1) := by decide +kernel
theorem dX4_takeBest_83 : decode cX4_takeBest 83 = .ok (.aload_n 1, 1) := by decide +kernel
theorem dX4_takeBest_84 : decode cX4_takeBest 84 = .ok (.getfield 75, 3) := by decide +kernel
theorem dX4_takeBest_87 : decode cX4_takeBest 87 = .ok (.iconst 5, 1) := by decide +kernel
theorem dX4_takeBest_88 : decode cX4_takeBest 88 = .ok (.iaload, 1) := by decide +kernel
theorem dX4_takeBest_89 : decode cX4_takeBest 89 = .ok (.iadd, 1) := by decide +kernel
theorem dX4_takeBest_90 : decode cX4_takeBest 90 = .ok (.istore_n 3, 1) := by decide +kernel
theorem dX4_takeBest_91 : decode cX4_takeBest 91 = .ok (.iinc 4 1, 3) := by decide +kernel
theorem dX4_takeBest_94 : decode cX4_takeBest 94 = .ok (.goto (-82), 3) := by decide +kernel
theorem dX4_takeBest_97 : decode cX4_takeBest 97 = .ok (.return_, 1) := by decide +kernel
set_option maxRecDepth 100000 in
theorem ggX4_isChoice_X9_pauseOf : GoodIn wsX4_isChoice wsX9_pauseOf := goodIn_r _ [9, 10, 11, 31, 32, 33, 34, 35, 36, 37, 38] rfl (by decide +kernel)
set_option maxRecDepth 100000 in
theorem gX4_isChoice_X9_pauseOf : GoodIn wsX4_isChoice (wsV RX4 85 RX9 yX9_pauseOf wsX9_pauseOf) := goodIn_app (goodIn_of _ (by decide +kernel)) ggX4_isChoice_X9_pauseOf
set_option maxRecDepth 100000 in
theorem ggX4_isChoice_X4_distance : GoodIn wsX4_isChoice wsX4_distance := goodIn_r _ [16, 17, 18, 19, 20, 21, 22, 39, 40, 41, 42, 43, 44, 27, 28, 29, 30] rfl (by decide +kernel)
set_option maxRecDepth 100000 in
theorem gX4_isChoice_X4_distance : GoodIn wsX4_isChoice (wsV RX4 71 RX4 yX4_distance wsX4_distance) := goodIn_app (goodIn_of _ (by decide +kernel)) ggX4_isChoice_X4_distance
theorem dX4_isChoice_0 : decode cX4_isChoice 0 = .ok (.aload_n 1, 1) := by decide +kernel
theorem dX4_isChoice_1 : decode cX4_isChoice 1 = .ok (.getfield 25, 3) := by decide +kernel
theorem dX4_isChoice_4 : decode cX4_isChoice 4 = .ok (.iload_n 3, 1) := by decide +kernel
theorem dX4_isChoice_5 : decode cX4_isChoice 5 = .ok (.invokevirtual 85, 3) := by decide +kernel
theorem dX4_isChoice_8 : decode cX4_isChoice 8 = .ok (.aload_n 1, 1) := by decide +kernel
theorem dX4_isChoice_9 : decode cX4_isChoice 9 = .ok (.getfield 75, 3) := by decide +kernel
theorem dX4_isChoice_12 : decode cX4_isChoice 12 = .ok (.iconst 4, 1) := by decide +kernel
theorem dX4_isChoice_13 : decode cX4_isChoice 13 = .ok (.iaload, 1) := by decide +kernel
theorem dX4_isChoice_14 : decode cX4_isChoice 14 = .ok (.if_icmp .lt 29, 3) := by decide +kernel
theorem dX4_isChoice_17 : decode cX4_isChoice 17 = .ok (.aload_n 0, 1) := by decide +kernel
theorem dX4_isChoice_18 : decode cX4_isChoice 18 = .ok (.aload_n 1, 1) := by decide +kernel
theorem dX4_isChoice_19 : decode cX4_isChoice 19 = .ok (.getfield 50, 3) := by decide +kernel
theorem dX4_isChoice_22 : decode cX4_isChoice 22 = .ok (.iload_n 2, 1) := by decide +kernel
theorem dX4_isChoice_23 : decode cX4_isChoice 23 = .ok (.iload_n 3, 1) := by decide +kernel
theorem dX4_isChoice_24 : decode cX4_isChoice 24 = .ok (.invokevirtual 71, 3) := by decide +kernel
theorem dX4_isChoice_27 : decode cX4_isChoice 27 = .ok (.aload_n 1, 1) := by decide +kernel
theorem dX4_isChoice_28 : decode cX4_isChoice 28 = .ok (.getfield 50, 3) := by decide +kernel
theorem dX4_isChoice_31 : decode cX4_isChoice 31 = .ok (.getfield 88, 3) := by decide +kernel
theorem dX4_isChoice_34 : decode cX4_isChoice 34 = .ok (.iload_n 2, 1) := by decide +kernel
theorem dX4_isChoice_35 : decode cX4_isChoice 35 = .ok (.iaload, 1) := by decide +kernel
theorem dX4_isChoice_36 : decode cX4_isChoice 36 = .ok (.if_icmp .gt 7, 3) := by decide +kernel
theorem dX4_isChoice_39 : decode cX4_isChoice 39 = .ok (.iconst 1, 1) := by decide +kernel
theorem dX4_isChoice_40 : decode cX4_isChoice 40 = .ok (.goto 4, 3) := by decide +kernel
theorem dX4_isChoice_43 : decode cX4_isChoice 43 = .ok (.iconst 0, 1) := by decide +kernel
theorem dX4_isChoice_44 : decode cX4_isChoice 44 = .ok (.ireturn, 1) := by decide +kernel
theorem dX4_distance_0 : decode cX4_distance 0 = .ok (.aload_n 0, 1) := by decide +kernel
theorem dX4_distance_1 : decode cX4_distance 1 = .ok (.getfield 18, 3) := by decide +kernel
theorem dX4_distance_4 : decode cX4_distance 4 = .ok (.iload_n 3, 1) := by decide +kernel
theorem dX4_distance_5 : decode cX4_distance 5 = .ok (.iaload, 1) := by decide +kernel
theorem dX4_distance_6 : decode cX4_distance 6 = .ok (.aload_n 1, 1) := by decide +kernel
theorem dX4_distance_7 : decode cX4_distance 7 = .ok (.getfield 91, 3) := by decide +kernel
theorem dX4_distance_10 : decode cX4_distance 10 = .ok (.iload_n 2, 1) := by decide +kernel
theorem dX4_distance_11 : decode cX4_distance 11 = .ok (.iaload, 1) := by decide +kernel
theorem dX4_distance_12 : decode cX4_distance 12 = .ok (.isub, 1) := by decide +kernel
theorem dX4_distance_13 : decode cX4_distance 13 = .ok (.invokestatic 94, 3) := by decide +kernel
theorem dX4_distance_16 : decode cX4_distance 16 = .ok (.ireturn, 1) := by decide +kernel
set_option maxRecDepth 100000 in
theorem ggX4_countChoices_X4_isChoice : GoodIn wsX4_countChoices wsX4_isChoice := goodIn_r _ [6, 7, 8, 9, 10, 11, 12, 13, 14, 15, 16, 17, 18, 19, 20, 5, 21, 22, 23, 24, 25, 26, 27, 34, 35, 36, 37, 38, 39, 40, 41, 42, 43, 44, 45, 46, 47, 48, 49, 28, 29, 30, 31, 32, 33] rfl (by decide +kernel)
set_option maxRecDepth 100000 in
theorem gX4_countChoices_X4_isChoice : GoodIn wsX4_countChoices (wsV RX4 67 RX4 yX4_isChoice wsX4_isChoice) := goodIn_app (goodIn_of _ (by decide +kernel)) ggX4_countChoices_X4_isChoice
theorem dX4_countChoices_0 : decode cX4_countChoices 0 = .ok (.iconst 0, 1) := by decide +kernel
theorem dX4_countChoices_1 : decode cX4_countChoices 1 = .ok (.istore_n 3, 1) := by decide +kernel
theorem dX4_countChoices_2 : decode cX4_countChoices 2 = .ok (.iconst 0, 1) := by decide +kernel
theorem dX4_countChoices_3 : decode cX4_countChoices 3 = .ok (.istore 4, 2) := by decide +kernel
theorem dX4_countChoices_5 : decode cX4_countChoices 5 = .ok (.iload 4, 2) := by decide +kernel
theorem dX4_countChoices_7 : decode cX4_countChoices 7 = .ok (.aload_n 0, 1) := by decide +kernel
theorem dX4_countChoices_8 : decode cX4_countChoices 8 = .ok (.getfield 37, 3) := by decide +kernel
theorem dX4_countChoices_11 : decode cX4_countChoices 11 = .ok (.if_icmp .ge 23, 3) := by decide +kernel
theorem dX4_countChoices_14 : decode cX4_countChoices 14 = .ok (.aload_n 0, 1) := by decide +kernel
theorem dX4_countChoices_15 : decode cX4_countChoices 15 = .ok (.aload_n 1, 1) := by decide +kernel
theorem dX4_countChoices_16 : decode cX4_countChoices 16 = .ok (.iload_n 2, 1) := by decide +kernel
theorem dX4_countChoices_17 : decode cX4_countChoices 17 = .ok (.iload 4, 2) := by decide +kernel
theorem dX4_countChoices_19 : decode cX4_countChoices 19 = .ok (.invokevirtual 67, 3) := by decide +kernel
theorem dX4_countChoices_22 : decode cX4_countChoices 22 = .ok (.ifCond .eq 6, 3) := by decide +kernel
theorem dX4_countChoices_25 : decode cX4_countChoices 25 = .ok (.iinc 3 1, 3) := by decide +kernel
theorem dX4_countChoices_28 : decode cX4_countChoices 28 = .ok (.iinc 4 1, 3) := by decide +kernel
theorem dX4_countChoices_31 : decode cX4_countChoices 31 = .ok (.goto (-26), 3) := by decide +kernel
theorem dX4_countChoices_34 : decode cX4_countChoices 34 = .ok (.iload_n 3, 1) := by decide +kernel
theorem dX4_countChoices_35 : decode cX4_countChoices 35 = .ok (.ireturn, 1) := by decide +kernel
set_option maxRecDepth 100000 in
theorem ggX4_realTime_X9_startOf : GoodIn wsX4_realTime wsX9_startOf := goodIn_r _ [11, 12, 13, 14, 10, 15, 16, 17, 32, 33, 34, 35, 36, 37, 38, 39] rfl (by decide +kernel)
set_option maxRecDepth 100000 in
theorem gX4_realTime_X9_startOf : GoodIn wsX4_realTime (wsV RX4 99 RX9 yX9_startOf wsX9_startOf) := goodIn_app (goodIn_of _ (by decide +kernel)) ggX4_realTime_X9_startOf
theorem dX4_realTime_0 : decode cX4_realTime 0 = .ok (.aload_n 1, 1) := by decide +kernel
theorem dX4_realTime_1 : decode cX4_realTime 1 = .ok (.getfield 25, 3) := by decide +kernel
theorem dX4_realTime_4 : decode cX4_realTime 4 = .ok (.iload_n 2, 1) := by decide +kernel
theorem dX4_realTime_5 : decode cX4_realTime 5 = .ok (.invokevirtual 99, 3) := by decide +kernel
theorem dX4_realTime_8 : decode cX4_realTime 8 = .ok (.istore_n 3, 1) := by decide +kernel
theorem dX4_realTime_9 : decode cX4_realTime 9 = .ok (.aload_n 0, 1) := by decide +kernel
theorem dX4_realTime_10 : decode cX4_realTime 10 = .ok (.getfield 82, 3) := by decide +kernel
theorem dX4_realTime_13 : decode cX4_realTime 13 = .ok (.iconst (-1), 1) := by decide +kernel
theorem dX4_realTime_14 : decode cX4_realTime 14 = .ok (.if_icmp .ne 5, 3) := by decide +kernel
theorem dX4_realTime_17 : decode cX4_realTime 17 = .ok (.iload_n 3, 1) := by decide +kernel
theorem dX4_realTime_18 : decode cX4_realTime 18 = .ok (.ireturn, 1) := by decide +kernel
theorem dX4_realTime_19 : decode cX4_realTime 19 = .ok (.iconst 0, 1) := by decide +kernel
theorem dX4_realTime_20 : decode cX4_realTime 20 = .ok (.istore 4, 2) := by decide +kernel
theorem dX4_realTime_22 : decode cX4_realTime 22 = .ok (.iload 4, 2) := by decide +kernel
theorem dX4_realTime_24 : decode cX4_realTime 24 = .ok (.aload_n 1, 1) := by decide +kernel
theorem dX4_realTime_25 : decode cX4_realTime 25 = .ok (.getfield 50, 3) := by decide +kernel
theorem dX4_realTime_28 : decode cX4_realTime 28 = .ok (.getfield 54, 3) := by decide +kernel
theorem dX4_realTime_31 : decode cX4_realTime 31 = .ok (.if_icmp .ge 33, 3) := by decide +kernel
theorem dX4_realTime_34 : decode cX4_realTime 34 = .ok (.aload_n 0, 1) := by decide +kernel
theorem dX4_realTime_35 : decode cX4_realTime 35 = .ok (.getfield 9, 3) := by decide +kernel
theorem dX4_realTime_38 : decode cX4_realTime 38 = .ok (.iload 4, 2) := by decide +kernel
theorem dX4_realTime_40 : decode cX4_realTime 40 = .ok (.iaload, 1) := by decide +kernel
theorem dX4_realTime_41 : decode cX4_realTime 41 = .ok (.iload_n 2, 1) := by decide +kernel
theorem dX4_realTime_42 : decode cX4_realTime 42 = .ok (.if_icmp .ge 16, 3) := by decide +kernel
theorem dX4_realTime_45 : decode cX4_realTime 45 = .ok (.iload_n 3, 1) := by decide +kernel
theorem dX4_realTime_46 : decode cX4_realTime 46 = .ok (.aload_n 1, 1) := by decide +kernel
theorem dX4_realTime_47 : decode cX4_realTime 47 = .ok (.getfield 50, 3) := by decide +kernel
theorem dX4_realTime_50 : decode cX4_realTime 50 = .ok (.getfield 102, 3) := by decide +kernel
theorem dX4_realTime_53 : decode cX4_realTime 53 = .ok (.iload 4, 2) := by decide +kernel
theorem dX4_realTime_55 : decode cX4_realTime 55 = .ok (.iaload, 1) := by decide +kernel
theorem dX4_realTime_56 : decode cX4_realTime 56 = .ok (.iadd, 1) := by decide +kernel
theorem dX4_realTime_57 : decode cX4_realTime 57 = .ok (.istore_n 3, 1) := by decide +kernel
theorem dX4_realTime_58 : decode cX4_realTime 58 = .ok (.iinc 4 1, 3) := by decide +kernel
theorem dX4_realTime_61 : decode cX4_realTime 61 = .ok (.goto (-39), 3) := by decide +kernel
theorem dX4_realTime_64 : decode cX4_realTime 64 = .ok (.iload_n 3, 1) := by decide +kernel
theorem dX4_realTime_65 : decode cX4_realTime 65 = .ok (.ireturn, 1) := by decide +kernel
set_option maxRecDepth 100000 in
theorem ggX5_init_X6_init : GoodIn wsX5_init wsX6_init := goodIn_r _ [12, 13, 2, 3, 14, 15, 16, 17, 18, 19, 20, 21, 22, 23, 24, 25, 26, 27, 28, 29, 30, 31, 32, 33, 34, 35, 9, 36, 37, 38, 39, 40, 41, 42, 43, 44, 45, 46, 47, 48, 49, 50, 51, 52, 53, 54, 66, 67, 68, 69, 70, 71, 72, 73, 62, 63, 64, 65, 74, 75, 76, 77, 78, 79, 80, 81, 82, 83] rfl (by decide +kernel)
set_option maxRecDepth 100000 in
theorem gX5_init_X6_init_n17 : GoodIn wsX5_init (wsX6_init) := ggX5_init_X6_init
theorem dX5_init_0 : decode cX5_init 0 = .ok (.aload_n 0, 1) := by decide +kernel
theorem dX5_init_1 : decode cX5_init 1 = .ok (.invokespecial 3, 3) := by decide +kernel
theorem dX5_init_4 : decode cX5_init 4 = .ok (.aload_n 0, 1) := by decide +kernel
theorem dX5_init_5 : decode cX5_init 5 = .ok (.iconst (-1), 1) := by decide +kernel
theorem dX5_init_6 : decode cX5_init 6 = .ok (.putfield 9, 3) := by decide +kernel
theorem dX5_init_9 : decode cX5_init 9 = .ok (.aload_n 0, 1) := by decide +kernel
theorem dX5_init_10 : decode cX5_init 10 = .ok (.new 15, 3) := by decide +kernel
theorem dX5_init_13 : decode cX5_init 13 = .ok (.dup, 1) := by decide +kernel
theorem dX5_init_14 : decode cX5_init 14 = .ok (.invokespecial 17, 3) := by decide +kernel
theorem dX5_init_17 : decode cX5_init 17 = .ok (.putfield 18, 3) := by decide +kernel
theorem dX5_init_20 : decode cX5_init 20 = .ok (.aload_n 0, 1) := by decide +kernel
theorem dX5_init_21 : decode cX5_init 21 = .ok (.sipush 900, 3) := by decide +kernel
theorem dX5_init_24 : decode cX5_init 24 = .ok (.newarray .int, 2) := by decide +kernel
theorem dX5_init_26 : decode cX5_init 26 = .ok (.putfield 22, 3) := by decide +kernel
theorem dX5_init_29 : decode cX5_init 29 = .ok (.return_, 1) := by decide +kernel
theorem dX5_hasRoom_0 : decode cX5_hasRoom 0 = .ok (.aload_n 0, 1) := by decide +kernel
theorem dX5_hasRoom_1 : decode cX5_hasRoom 1 = .ok (.getfield 26, 3) := by decide +kernel
theorem dX5_hasRoom_4 : decode cX5_hasRoom 4 = .ok (.bipush 20, 2) := by decide +kernel
theorem dX5_hasRoom_6 : decode cX5_hasRoom 6 = .ok (.iadd, 1) := by decide +kernel
theorem dX5_hasRoom_7 : decode cX5_hasRoom 7 = .ok (.sipush 900, 3) := by decide +kernel
theorem dX5_hasRoom_10 : decode cX5_hasRoom 10 = .ok (.if_icmp .gt 7, 3) := by decide +kernel
theorem dX5_hasRoom_13 : decode cX5_hasRoom 13 = .ok (.iconst 1, 1) := by decide +kernel
theorem dX5_hasRoom_14 : decode cX5_hasRoom 14 = .ok (.goto 4, 3) := by decide +kernel
theorem dX5_hasRoom_17 : decode cX5_hasRoom 17 = .ok (.iconst 0, 1) := by decide +kernel
theorem dX5_hasRoom_18 : decode cX5_hasRoom 18 = .ok (.ireturn, 1) := by decide +kernel
theorem dX5_takeBytes_0 : decode cX5_takeBytes 0 = .ok (.bipush 24, 2) := by decide +kernel
theorem dX5_takeBytes_2 : decode cX5_takeBytes 2 = .ok (.istore_n 2, 1) := by decide +kernel
theorem dX5_takeBytes_3 : decode cX5_takeBytes 3 = .ok (.iload_n 2, 1) := by decide +kernel
theorem dX5_takeBytes_4 : decode cX5_takeBytes 4 = .ok (.ifCond .lt 45, 3) := by decide +kernel
theorem dX5_takeBytes_7 : decode cX5_takeBytes 7 = .ok (.aload_n 0, 1) := by decide +kernel
theorem dX5_takeBytes_8 : decode cX5_takeBytes 8 = .ok (.getfield 26, 3) := by decide +kernel
theorem dX5_takeBytes_11 : decode cX5_takeBytes 11 = .ok (.sipush 900, 3) := by decide +kernel
theorem dX5_takeBytes_14 : decode cX5_takeBytes 14 = .ok (.if_icmp .ge 35, 3) := by decide +kernel
theorem dX5_takeBytes_17 : decode cX5_takeBytes 17 = .ok (.aload_n 0, 1) := by decide +kernel
theorem dX5_takeBytes_18 : decode cX5_takeBytes 18 = .ok (.getfield 22, 3) := by decide +kernel
theorem dX5_takeBytes_21 : decode cX5_takeBytes 21 = .ok (.aload_n 0, 1) := by decide +kernel
theorem dX5_takeBytes_22 : decode cX5_takeBytes 22 = .ok (.getfield 26, 3) := by decide +kernel
theorem dX5_takeBytes_25 : decode cX5_takeBytes 25 = .ok (.iload_n 1, 1) := by decide +kernel
theorem dX5_takeBytes_26 : decode cX5_takeBytes 26 = .ok (.iload_n 2, 1) := by decide +kernel
theorem dX5_takeBytes_27 : decode cX5_takeBytes 27 = .ok (.iushr, 1) := by decide +kernel
theorem dX5_takeBytes_28 : decode cX5_takeBytes 28 = .ok (.sipush 255, 3) := by decide +kernel
theorem dX5_takeBytes_31 : decode cX5_takeBytes 31 = .ok (.iand, 1) := by decide +kernel
theorem dX5_takeBytes_32 : decode cX5_takeBytes 32 = .ok (.iastore, 1) := by decide +kernel
theorem dX5_takeBytes_33 : decode cX5_takeBytes 33 = .ok (.aload_n 0, 1) := by decide +kernel
theorem dX5_takeBytes_34 : decode cX5_takeBytes 34 = .ok (.dup, 1) := by decide +kernel
theorem dX5_takeBytes_35 : decode cX5_takeBytes 35 = .ok (.getfield 26, 3) := by decide +kernel
theorem dX5_takeBytes_38 : decode cX5_takeBytes 38 = .ok (.iconst 1, 1) := by decide +kernel
theorem dX5_takeBytes_39 : decode cX5_takeBytes 39 = .ok (.iadd, 1) := by decide +kernel
theorem dX5_takeBytes_40 : decode cX5_takeBytes 40 = .ok (.putfield 26, 3) := by decide +kernel
theorem dX5_takeBytes_43 : decode cX5_takeBytes 43 = .ok (.iinc 2 (-8), 3) := by decide +kernel
theorem dX5_takeBytes_46 : decode cX5_takeBytes 46 = .ok (.goto (-43), 3) := by decide +kernel
theorem dX5_takeBytes_49 : decode cX5_takeBytes 49 = .ok (.return_, 1) := by decide +kernel
set_option maxRecDepth 100000 in
theorem ggX5_readShow_X6_clear : GoodIn wsX5_readShow wsX6_clear := goodIn_r _ [15, 16, 17, 18, 19, 20, 21, 22, 23, 24, 25, 26, 27, 28, 29, 30, 31, 32, 134, 135, 136, 137, 138, 139, 140, 141, 142, 143, 144, 145, 146, 147, 148, 149, 150, 151, 152, 153, 154, 155] rfl (by decide +kernel)
set_option maxRecDepth 100000 in
theorem gX5_readShow_X6_clear : GoodIn wsX5_readShow (wsV RX5 44 RX6 yX6_clear wsX6_clear) := goodIn_app (goodIn_of _ (by decide +kernel)) ggX5_readShow_X6_clear
set_option maxRecDepth 100000 in
theorem ggX5_readShow_X5_skipSpaces : GoodIn wsX5_readShow wsX5_skipSpaces := goodIn_r _ [37, 7, 6, 38, 127, 128, 129, 130, 131, 132, 133] rfl (by decide +kernel)
set_option maxRecDepth 100000 in
theorem gX5_readShow_X5_skipSpaces : GoodIn wsX5_readShow (wsV RX5 47 RX5 yX5_skipSpaces wsX5_skipSpaces) := goodIn_app (goodIn_of _ (by decide +kernel)) ggX5_readShow_X5_skipSpaces
set_option maxRecDepth 100000 in
theorem ggX5_readShow_X5_readStatement : GoodIn wsX5_readShow wsX5_readStatement := goodIn_r _ [42, 7, 43, 44, 45, 46, 47, 48, 36, 49, 6, 38, 50, 51, 52, 53, 54, 55, 56, 57, 10, 58, 59, 8, 60, 61, 62, 63, 9, 64, 65, 66, 67, 68, 2, 3, 4, 5, 33, 34, 35, 37, 69, 70, 71, 72, 73, 74, 75, 29, 76, 31, 77, 78, 79, 80, 81, 82, 83, 84, 85, 86, 87, 88, 32, 89, 90, 91, 92, 93, 94, 95, 96, 97, 98, 99, 100, 101, 102, 103, 104, 105, 106, 107, 108, 109, 110, 111, 112, 113, 114, 115, 116, 117, 118, 119, 120, 121, 122, 127, 128, 129, 130, 131, 132, 133, 134, 135, 136, 137, 148, 149, 150, 151, 152, 153, 154, 155, 138, 139, 140, 141] rfl (by decide +kernel)
set_option maxRecDepth 100000 in
theorem gX5_readShow_X5_readStatement : GoodIn wsX5_readShow (wsV RX5 50 RX5 yX5_readStatement wsX5_readStatement) := goodIn_app (goodIn_of _ (by decide +kernel)) ggX5_readShow_X5_readStatement
set_option maxRecDepth 100000 in
theorem ggX5_readShow_X5_readSemicolon : GoodIn wsX5_readShow wsX5_readSemicolon := goodIn_r _ [126, 7, 6, 38, 33, 34, 35, 36, 37, 60, 61, 62, 63, 8, 9, 127, 128, 129, 130, 131, 132, 133] rfl (by decide +kernel)
set_option maxRecDepth 100000 in
theorem gX5_readShow_X5_readSemicolon : GoodIn wsX5_readShow (wsV RX5 53 RX5 yX5_readSemicolon wsX5_readSemicolon) := goodIn_app (goodIn_of _ (by decide +kernel)) ggX5_readShow_X5_readSemicolon
theorem dX5_readShow_0 : decode cX5_readShow 0 = .ok (.aload_n 0, 1) := by decide +kernel
theorem dX5_readShow_1 : decode cX5_readShow 1 = .ok (.iload_n 1, 1) := by decide +kernel
theorem dX5_readShow_2 : decode cX5_readShow 2 = .ok (.aload_n 0, 1) := by decide +kernel
theorem dX5_readShow_3 : decode cX5_readShow 3 = .ok (.getfield 26, 3) := by decide +kernel
theorem dX5_readShow_6 : decode cX5_readShow 6 = .ok (.invokestatic 29, 3) := by decide +kernel
theorem dX5_readShow_9 : decode cX5_readShow 9 = .ok (.putfield 35, 3) := by decide +kernel
theorem dX5_readShow_12 : decode cX5_readShow 12 = .ok (.aload_n 0, 1) := by decide +kernel
theorem dX5_readShow_13 : decode cX5_readShow 13 = .ok (.iconst 0, 1) := by decide +kernel
theorem dX5_readShow_14 : decode cX5_readShow 14 = .ok (.putfield 38, 3) := by decide +kernel
theorem dX5_readShow_17 : decode cX5_readShow 17 = .ok (.aload_n 0, 1) := by decide +kernel
theorem dX5_readShow_18 : decode cX5_readShow 18 = .ok (.iconst 0, 1) := by decide +kernel
theorem dX5_readShow_19 : decode cX5_readShow 19 = .ok (.putfield 26, 3) := by decide +kernel
theorem dX5_readShow_22 : decode cX5_readShow 22 = .ok (.aload_n 0, 1) := by decide +kernel
theorem dX5_readShow_23 : decode cX5_readShow 23 = .ok (.iconst 0, 1) := by decide +kernel
theorem dX5_readShow_24 : decode cX5_readShow 24 = .ok (.putfield 41, 3) := by decide +kernel
theorem dX5_readShow_27 : decode cX5_readShow 27 = .ok (.aload_n 0, 1) := by decide +kernel
theorem dX5_readShow_28 : decode cX5_readShow 28 = .ok (.iconst (-1), 1) := by decide +kernel
theorem dX5_readShow_29 : decode cX5_readShow 29 = .ok (.putfield 9, 3) := by decide +kernel
theorem dX5_readShow_32 : decode cX5_readShow 32 = .ok (.aload_n 0, 1) := by decide +kernel
theorem dX5_readShow_33 : decode cX5_readShow 33 = .ok (.getfield 18, 3) := by decide +kernel
theorem dX5_readShow_36 : decode cX5_readShow 36 = .ok (.invokevirtual 44, 3) := by decide +kernel
theorem dX5_readShow_39 : decode cX5_readShow 39 = .ok (.aload_n 0, 1) := by decide +kernel
theorem dX5_readShow_40 : decode cX5_readShow 40 = .ok (.invokevirtual 47, 3) := by decide +kernel
theorem dX5_readShow_43 : decode cX5_readShow 43 = .ok (.iconst 0, 1) := by decide +kernel
theorem dX5_readShow_44 : decode cX5_readShow 44 = .ok (.istore_n 2, 1) := by decide +kernel
theorem dX5_readShow_45 : decode cX5_readShow 45 = .ok (.iload_n 2, 1) := by decide +kernel
theorem dX5_readShow_46 : decode cX5_readShow 46 = .ok (.sipush 900, 3) := by decide +kernel
theorem dX5_readShow_49 : decode cX5_readShow 49 = .ok (.if_icmp .ge 39, 3) := by decide +kernel
theorem dX5_readShow_52 : decode cX5_readShow 52 = .ok (.aload_n 0, 1) := by decide +kernel
theorem dX5_readShow_53 : decode cX5_readShow 53 = .ok (.getfield 41, 3) := by decide +kernel
theorem dX5_readShow_56 : decode cX5_readShow 56 = .ok (.ifCond .ne 32, 3) := by decide +kernel
theorem dX5_readShow_59 : decode cX5_readShow 59 = .ok (.aload_n 0, 1) := by decide +kernel
theorem dX5_readShow_60 : decode cX5_readShow 60 = .ok (.getfield 38, 3) := by decide +kernel
theorem dX5_readShow_63 : decode cX5_readShow 63 = .ok (.aload_n 0, 1) := by decide +kernel
theorem dX5_readShow_64 : decode cX5_readShow 64 = .ok (.getfield 35, 3) := by decide +kernel
theorem dX5_readShow_67 : decode cX5_readShow 67 = .ok (.if_icmp .ge 21, 3) := by decide +kernel
theorem dX5_readShow_70 : decode cX5_readShow 70 = .ok (.aload_n 0, 1) := by decide +kernel
theorem dX5_readShow_71 : decode cX5_readShow 71 = .ok (.invokevirtual 50, 3) := by decide +kernel
theorem dX5_readShow_74 : decode cX5_readShow 74 = .ok (.aload_n 0, 1) := by decide +kernel
theorem dX5_readShow_75 : decode cX5_readShow 75 = .ok (.invokevirtual 53, 3) := by decide +kernel
theorem dX5_readShow_78 : decode cX5_readShow 78 = .ok (.aload_n 0, 1) := by decide +kernel
theorem dX5_readShow_79 : decode cX5_readShow 79 = .ok (.invokevirtual 47, 3) := by decide +kernel
theorem dX5_readShow_82 : decode cX5_readShow 82 = .ok (.iinc 2 1, 3) := by decide +kernel
theorem dX5_readShow_85 : decode cX5_readShow 85 = .ok (.goto (-40), 3) := by decide +kernel
theorem dX5_readShow_88 : decode cX5_readShow 88 = .ok (.return_, 1) := by decide +kernel
theorem dX5_fail_0 : decode cX5_fail 0 = .ok (.aload_n 0, 1) := by decide +kernel
theorem dX5_fail_1 : decode cX5_fail 1 = .ok (.getfield 41, 3) := by decide +kernel
theorem dX5_fail_4 : decode cX5_fail 4 = .ok (.ifCond .ne 13, 3) := by decide +kernel
theorem dX5_fail_7 : decode cX5_fail 7 = .ok (.aload_n 0, 1) := by decide +kernel
theorem dX5_fail_8 : decode cX5_fail 8 = .ok (.iload_n 1, 1) := by decide +kernel
theorem dX5_fail_9 : decode cX5_fail 9 = .ok (.putfield 41, 3) := by decide +kernel
theorem dX5_fail_12 : decode cX5_fail 12 = .ok (.aload_n 0, 1) := by decide +kernel
theorem dX5_fail_13 : decode cX5_fail 13 = .ok (.iload_n 2, 1) := by decide +kernel
theorem dX5_fail_14 : decode cX5_fail 14 = .ok (.putfield 9, 3) := by decide +kernel
theorem dX5_fail_17 : decode cX5_fail 17 = .ok (.return_, 1) := by decide +kernel
set_option maxRecDepth 100000 in
theorem ggX5_readStatement_X5_readWord : GoodIn wsX5_readStatement wsX5_readWord := goodIn_r _ [9, 1, 10, 11, 12, 13, 14, 8, 15, 99, 100, 101, 102, 103, 104, 105] rfl (by decide +kernel)
set_option maxRecDepth 100000 in
theorem gX5_readStatement_X5_readWord : GoodIn wsX5_readStatement (wsV RX5 56 RX5 yX5_readWord wsX5_readWord) := goodIn_app (goodIn_of _ (by decide +kernel)) ggX5_readStatement_X5_readWord
set_option maxRecDepth 100000 in
theorem ggX5_readStatement_X5_readSegment : GoodIn wsX5_readStatement wsX5_readSegment := goodIn_r _ [19, 20, 21, 22, 23, 24, 25, 26, 8, 27, 28, 29, 30, 31, 32, 1, 10, 33, 11, 34, 35, 36, 37, 38, 39, 40, 41, 42, 43, 44, 45, 46, 47, 48, 49, 50, 51, 52, 53, 54, 55, 56, 57, 58, 59, 5, 6, 7, 9, 12, 13, 14, 15, 60, 61, 62, 63, 64, 65, 66, 67, 68, 69, 70, 71, 72, 73, 74, 99, 100, 101, 102, 103, 104, 105, 106, 107, 108, 109, 110, 111, 112, 113, 114, 115, 116, 117] rfl (by decide +kernel)
set_option maxRecDepth 100000 in
theorem gX5_readStatement_X5_readSegment : GoodIn wsX5_readStatement (wsV RX5 62 RX5 yX5_readSegment wsX5_readSegment) := goodIn_app (goodIn_of _ (by decide +kernel)) ggX5_readStatement_X5_readSegment
set_option maxRecDepth 100000 in
theorem ggX5_readStatement_X5_readSlot : GoodIn wsX5_readStatement wsX5_readSlot := goodIn_r _ [78, 20, 79, 80, 24, 25, 26, 8, 27, 23, 28, 29, 30, 31, 32, 1, 10, 33, 11, 34, 35, 36, 37, 38, 39, 40, 41, 42, 43, 44, 45, 81, 82, 83, 84, 85, 86, 87, 88, 89, 90, 91, 92, 93, 99, 100, 101, 102, 103, 104, 105, 106, 107, 108, 109, 118, 119, 120, 121] rfl (by decide +kernel)
set_option maxRecDepth 100000 in
theorem gX5_readStatement_X5_readSlot : GoodIn wsX5_readStatement (wsV RX5 68 RX5 yX5_readSlot wsX5_readSlot) := goodIn_app (goodIn_of _ (by decide +kernel)) ggX5_readStatement_X5_readSlot
set_option maxRecDepth 100000 in
theorem ggX5_readStatement_X5_readSetting : GoodIn wsX5_readStatement wsX5_readSetting := goodIn_r _ [97, 20, 98, 29, 30, 31, 8, 32, 1, 10, 33, 11, 34, 35, 36, 37, 38, 39, 40, 41, 42, 43, 44, 45, 24, 25, 26, 27, 23, 28, 99, 100, 101, 102, 103, 104, 105, 106, 107, 108, 109] rfl (by decide +kernel)
set_option maxRecDepth 100000 in
theorem gX5_readStatement_X5_readSetting : GoodIn wsX5_readStatement (wsV RX5 73 RX5 yX5_readSetting wsX5_readSetting) := goodIn_app (goodIn_of _ (by decide +kernel)) ggX5_readStatement_X5_readSetting
set_option maxRecDepth 100000 in
theorem ggX5_readStatement_X5_fail : GoodIn wsX5_readStatement wsX5_fail := goodIn_r _ [27, 23, 28, 99, 100, 101, 102, 103, 104, 105] rfl (by decide +kernel)
set_option maxRecDepth 100000 in
theorem gX5_readStatement_X5_fail : GoodIn wsX5_readStatement (wsV RX5 76 RX5 yX5_fail wsX5_fail) := goodIn_app (goodIn_of _ (by decide +kernel)) ggX5_readStatement_X5_fail
theorem dX5_readStatement_0 : decode cX5_readStatement 0 = .ok (.aload_n 0, 1) := by decide +kernel
theorem dX5_readStatement_1 : decode cX5_readStatement 1 = .ok (.getfield 38, 3) := by decide +kernel
theorem dX5_readStatement_4 : decode cX5_readStatement 4 = .ok (.istore_n 1, 1) := by decide +kernel
theorem dX5_readStatement_5 : decode cX5_readStatement 5 = .ok (.aload_n 0, 1) := by decide +kernel
theorem dX5_readStatement_6 : decode cX5_readStatement 6 = .ok (.invokevirtual 56, 3) := by decide +kernel
theorem dX5_readStatement_9 : decode cX5_readStatement 9 = .ok (.lstore_n 2, 1) := by decide +kernel
theorem dX5_readStatement_10 : decode cX5_readStatement 10 = .ok (.lload_n 2, 1) := by decide +kernel
theorem dX5_readStatement_11 : decode cX5_readStatement 11 = .ok (.ldc2_w 60, 3) := by decide +kernel
theorem dX5_readStatement_14 : decode cX5_readStatement 14 = .ok (.lcmp, 1) := by decide +kernel
theorem dX5_readStatement_15 : decode cX5_readStatement 15 = .ok (.ifCond .ne 11, 3) := by decide +kernel
theorem dX5_readStatement_18 : decode cX5_readStatement 18 = .ok (.aload_n 0, 1) := by decide +kernel
theorem dX5_readStatement_19 : decode cX5_readStatement 19 = .ok (.iload_n 1, 1) := by decide +kernel
theorem dX5_readStatement_20 : decode cX5_readStatement 20 = .ok (.invokevirtual 62, 3) := by decide +kernel
theorem dX5_readStatement_23 : decode cX5_readStatement 23 = .ok (.goto 41, 3) := by decide +kernel
theorem dX5_readStatement_26 : decode cX5_readStatement 26 = .ok (.lload_n 2, 1) := by decide +kernel
theorem dX5_readStatement_27 : decode cX5_readStatement 27 = .ok (.ldc2_w 66, 3) := by decide +kernel
theorem dX5_readStatement_30 : decode cX5_readStatement 30 = .ok (.lcmp, 1) := by decide +kernel
theorem dX5_readStatement_31 : decode cX5_readStatement 31 = .ok (.ifCond .ne 11, 3) := by decide +kernel
theorem dX5_readStatement_34 : decode cX5_readStatement 34 = .ok (.aload_n 0, 1) := by decide +kernel
theorem dX5_readStatement_35 : decode cX5_readStatement 35 = .ok (.iload_n 1, 1) := by decide +kernel
theorem dX5_readStatement_36 : decode cX5_readStatement 36 = .ok (.invokevirtual 68, 3) := by decide +kernel
theorem dX5_readStatement_39 : decode cX5_readStatement 39 = .ok (.goto 25, 3) := by decide +kernel
theorem dX5_readStatement_42 : decode cX5_readStatement 42 = .ok (.lload_n 2, 1) := by decide +kernel
theorem dX5_readStatement_43 : decode cX5_readStatement 43 = .ok (.ldc2_w 71, 3) := by decide +kernel
theorem dX5_readStatement_46 : decode cX5_readStatement 46 = .ok (.lcmp, 1) := by decide +kernel
theorem dX5_readStatement_47 : decode cX5_readStatement 47 = .ok (.ifCond .ne 10, 3) := by decide +kernel
theorem dX5_readStatement_50 : decode cX5_readStatement 50 = .ok (.aload_n 0, 1) := by decide +kernel
theorem dX5_readStatement_51 : decode cX5_readStatement 51 = .ok (.invokevirtual 73, 3) := by decide +kernel
theorem dX5_readStatement_54 : decode cX5_readStatement 54 = .ok (.goto 10, 3) := by decide +kernel
theorem dX5_readStatement_57 : decode cX5_readStatement 57 = .ok (.aload_n 0, 1) := by decide +kernel
theorem dX5_readStatement_58 : decode cX5_readStatement 58 = .ok (.bipush (-2), 2) := by decide +kernel
theorem dX5_readStatement_60 : decode cX5_readStatement 60 = .ok (.iload_n 1, 1) := by decide +kernel
theorem dX5_readStatement_61 : decode cX5_readStatement 61 = .ok (.invokevirtual 76, 3) := by decide +kernel
theorem dX5_readStatement_64 : decode cX5_readStatement 64 = .ok (.return_, 1) := by decide +kernel
set_option maxRecDepth 100000 in
theorem ggX5_readSegment_X5_fail : GoodIn wsX5_readSegment wsX5_fail := goodIn_r _ [9, 4, 10, 68, 69, 70, 71, 72, 73, 74] rfl (by decide +kernel)
set_option maxRecDepth 100000 in
theorem gX5_readSegment_X5_fail : GoodIn wsX5_readSegment (wsV RX5 76 RX5 yX5_fail wsX5_fail) := goodIn_app (goodIn_of _ (by decide +kernel)) ggX5_readSegment_X5_fail
set_option maxRecDepth 100000 in
theorem ggX5_readSegment_X5_readNumber : GoodIn wsX5_readSegment wsX5_readNumber := goodIn_r _ [14, 15, 16, 17, 18, 19, 20, 21, 22, 23, 24, 25, 8, 26, 27, 28, 29, 30, 5, 6, 7, 9, 4, 10, 68, 69, 70, 71, 72, 73, 74] rfl (by decide +kernel)
set_option maxRecDepth 100000 in
theorem gX5_readSegment_X5_readNumber : GoodIn wsX5_readSegment (wsV RX5 89 RX5 yX5_readNumber wsX5_readNumber) := goodIn_app (goodIn_of _ (by decide +kernel)) ggX5_readSegment_X5_readNumber
set_option maxRecDepth 100000 in
theorem ggX5_readSegment_X9_addSegment : GoodIn wsX5_readSegment wsX9_addSegment := goodIn_r _ [35, 36, 37, 38, 39, 40, 79, 80, 81, 82, 83, 84, 85, 86] rfl (by decide +kernel)
set_option maxRecDepth 100000 in
theorem gX5_readSegment_X9_addSegment : GoodIn wsX5_readSegment (wsV RX5 92 RX9 yX9_addSegment wsX9_addSegment) := goodIn_app (goodIn_of _ (by decide +kernel)) ggX5_readSegment_X9_addSegment
set_option maxRecDepth 100000 in
theorem ggX5_readSegment_X5_readName : GoodIn wsX5_readSegment wsX5_readName := goodIn_r _ [44, 15, 4, 1, 2, 3, 23, 24, 25, 8, 26, 16, 18, 45, 46, 47, 48, 49, 50, 51, 52, 5, 6, 7, 9, 10, 53, 54, 55, 34, 56, 57, 58, 59, 60, 61, 62, 63, 64, 65, 66, 37, 40, 67, 68, 69, 70, 71, 72, 73, 74, 75, 76, 77, 78, 79, 80, 81, 82, 83, 84, 85, 86] rfl (by decide +kernel)
set_option maxRecDepth 100000 in
theorem gX5_readSegment_X5_readName : GoodIn wsX5_readSegment (wsV RX5 96 RX5 yX5_readName wsX5_readName) := goodIn_app (goodIn_of _ (by decide +kernel)) ggX5_readSegment_X5_readName
set_option maxRecDepth 100000 in
theorem ggX5_readSegment_X5_skipSpaces : GoodIn wsX5_readSegment wsX5_skipSpaces := goodIn_r _ [26, 15, 16, 18, 68, 69, 70, 71, 72, 73, 74] rfl (by decide +kernel)
set_option maxRecDepth 100000 in
theorem gX5_readSegment_X5_skipSpaces : GoodIn wsX5_readSegment (wsV RX5 47 RX5 yX5_skipSpaces wsX5_skipSpaces) := goodIn_app (goodIn_of _ (by decide +kernel)) ggX5_readSegment_X5_skipSpaces
set_option maxRecDepth 100000 in
theorem ggX5_readSegment_X5_isLetter : GoodIn wsX5_readSegment wsX5_isLetter := goodIn_r _ [52, 15, 16, 18, 68, 69, 70, 71, 72, 73, 74] rfl (by decide +kernel)
set_option maxRecDepth 100000 in
theorem gX5_readSegment_X5_isLetter : GoodIn wsX5_readSegment (wsV RX5 99 RX5 yX5_isLetter wsX5_isLetter) := goodIn_app (goodIn_of _ (by decide +kernel)) ggX5_readSegment_X5_isLetter
theorem dX5_readSegment_0 : decode cX5_readSegment 0 = .ok (.aload_n 0, 1) := by decide +kernel
theorem dX5_readSegment_1 : decode cX5_readSegment 1 = .ok (.getfield 18, 3) := by decide +kernel
theorem dX5_readSegment_4 : decode cX5_readSegment 4 = .ok (.getfield 80, 3) := by decide +kernel
theorem dX5_readSegment_7 : decode cX5_readSegment 7 = .ok (.getfield 84, 3) := by decide +kernel
theorem dX5_readSegment_10 : decode cX5_readSegment 10 = .ok (.bipush 32, 2) := by decide +kernel
theorem dX5_readSegment_12 : decode cX5_readSegment 12 = .ok (.if_icmp .lt 11, 3) := by decide +kernel
theorem dX5_readSegment_15 : decode cX5_readSegment 15 = .ok (.aload_n 0, 1) := by decide +kernel
theorem dX5_readSegment_16 : decode cX5_readSegment 16 = .ok (.bipush (-4), 2) := by decide +kernel
theorem dX5_readSegment_18 : decode cX5_readSegment 18 = .ok (.iload_n 1, 1) := by decide +kernel
theorem dX5_readSegment_19 : decode cX5_readSegment 19 = .ok (.invokevirtual 76, 3) := by decide +kernel
theorem dX5_readSegment_22 : decode cX5_readSegment 22 = .ok (.return_, 1) := by decide +kernel
theorem dX5_readSegment_23 : decode cX5_readSegment 23 = .ok (.aload_n 0, 1) := by decide +kernel
theorem dX5_readSegment_24 : decode cX5_readSegment 24 = .ok (.iconst 1, 1) := by decide +kernel
theorem dX5_readSegment_25 : decode cX5_readSegment 25 = .ok (.sipush 999, 3) := by decide +kernel
theorem dX5_readSegment_28 : decode cX5_readSegment 28 = .ok (.invokevirtual 89, 3) := by decide +kernel
theorem dX5_readSegment_31 : decode cX5_readSegment 31 = .ok (.istore_n 2, 1) := by decide +kernel
theorem dX5_readSegment_32 : decode cX5_readSegment 32 = .ok (.aload_n 0, 1) := by decide +kernel
theorem dX5_readSegment_33 : decode cX5_readSegment 33 = .ok (.iconst 0, 1) := by decide +kernel
theorem dX5_readSegment_34 : decode cX5_readSegment 34 = .ok (.bipush 99, 2) := by decide +kernel
theorem dX5_readSegment_36 : decode cX5_readSegment 36 = .ok (.invokevirtual 89, 3) := by decide +kernel
theorem dX5_readSegment_39 : decode cX5_readSegment 39 = .ok (.istore_n 3, 1) := by decide +kernel
theorem dX5_readSegment_40 : decode cX5_readSegment 40 = .ok (.aload_n 0, 1) := by decide +kernel
theorem dX5_readSegment_41 : decode cX5_readSegment 41 = .ok (.getfield 18, 3) := by decide +kernel
theorem dX5_readSegment_44 : decode cX5_readSegment 44 = .ok (.getfield 80, 3) := by decide +kernel
theorem dX5_readSegment_47 : decode cX5_readSegment 47 = .ok (.iload_n 2, 1) := by decide +kernel
theorem dX5_readSegment_48 : decode cX5_readSegment 48 = .ok (.iload_n 3, 1) := by decide +kernel
theorem dX5_readSegment_49 : decode cX5_readSegment 49 = .ok (.invokevirtual 92, 3) := by decide +kernel
theorem dX5_readSegment_52 : decode cX5_readSegment 52 = .ok (.pop, 1) := by decide +kernel
theorem dX5_readSegment_53 : decode cX5_readSegment 53 = .ok (.aload_n 0, 1) := by decide +kernel
theorem dX5_readSegment_54 : decode cX5_readSegment 54 = .ok (.invokevirtual 96, 3) := by decide +kernel
theorem dX5_readSegment_57 : decode cX5_readSegment 57 = .ok (.aload_n 0, 1) := by decide +kernel
theorem dX5_readSegment_58 : decode cX5_readSegment 58 = .ok (.invokevirtual 47, 3) := by decide +kernel
theorem dX5_readSegment_61 : decode cX5_readSegment 61 = .ok (.iconst 1, 1) := by decide +kernel
theorem dX5_readSegment_62 : decode cX5_readSegment 62 = .ok (.istore 4, 2) := by decide +kernel
theorem dX5_readSegment_64 : decode cX5_readSegment 64 = .ok (.iload 4, 2) := by decide +kernel
theorem dX5_readSegment_66 : decode cX5_readSegment 66 = .ok (.sipush 900, 3) := by decide +kernel
theorem dX5_readSegment_69 : decode cX5_readSegment 69 = .ok (.if_icmp .ge 31, 3) := by decide +kernel
theorem dX5_readSegment_72 : decode cX5_readSegment 72 = .ok (.aload_n 0, 1) := by decide +kernel
theorem dX5_readSegment_73 : decode cX5_readSegment 73 = .ok (.getfield 41, 3) := by decide +kernel
theorem dX5_readSegment_76 : decode cX5_readSegment 76 = .ok (.ifCond .ne 24, 3) := by decide +kernel
theorem dX5_readSegment_79 : decode cX5_readSegment 79 = .ok (.aload_n 0, 1) := by decide +kernel
theorem dX5_readSegment_80 : decode cX5_readSegment 80 = .ok (.invokevirtual 99, 3) := by decide +kernel
theorem dX5_readSegment_83 : decode cX5_readSegment 83 = .ok (.ifCond .eq 17, 3) := by decide +kernel
theorem dX5_readSegment_86 : decode cX5_readSegment 86 = .ok (.aload_n 0, 1) := by decide +kernel
theorem dX5_readSegment_87 : decode cX5_readSegment 87 = .ok (.invokevirtual 96, 3) := by decide +kernel
theorem dX5_readSegment_90 : decode cX5_readSegment 90 = .ok (.aload_n 0, 1) := by decide +kernel
theorem dX5_readSegment_91 : decode cX5_readSegment 91 = .ok (.invokevirtual 47, 3) := by decide +kernel
theorem dX5_readSegment_94 : decode cX5_readSegment 94 = .ok (.iinc 4 1, 3) := by decide +kernel
theorem dX5_readSegment_97 : decode cX5_readSegment 97 = .ok (.goto (-33), 3) := by decide +kernel
theorem dX5_readSegment_100 : decode cX5_readSegment 100 = .ok (.return_, 1) := by decide +kernel
set_option maxRecDepth 100000 in
theorem ggX5_readName_X5_skipSpaces : GoodIn wsX5_readName wsX5_skipSpaces := goodIn_r _ [10, 1, 11, 12, 44, 45, 46, 47, 48, 49, 50] rfl (by decide +kernel)
set_option maxRecDepth 100000 in
theorem gX5_readName_X5_skipSpaces : GoodIn wsX5_readName (wsV RX5 47 RX5 yX5_skipSpaces wsX5_skipSpaces) := goodIn_app (goodIn_of _ (by decide +kernel)) ggX5_readName_X5_skipSpaces
set_option maxRecDepth 100000 in
theorem ggX5_readName_X5_readWord : GoodIn wsX5_readName wsX5_readWord := goodIn_r _ [16, 1, 11, 12, 17, 18, 19, 9, 20, 44, 45, 46, 47, 48, 49, 50] rfl (by decide +kernel)
set_option maxRecDepth 100000 in
theorem gX5_readName_X5_readWord : GoodIn wsX5_readName (wsV RX5 56 RX5 yX5_readWord wsX5_readWord) := goodIn_app (goodIn_of _ (by decide +kernel)) ggX5_readName_X5_readWord
set_option maxRecDepth 100000 in
theorem ggX5_readName_X5_fail : GoodIn wsX5_readName wsX5_fail := goodIn_r _ [24, 2, 25, 44, 45, 46, 47, 48, 49, 50] rfl (by decide +kernel)
set_option maxRecDepth 100000 in
theorem gX5_readName_X5_fail : GoodIn wsX5_readName (wsV RX5 76 RX5 yX5_fail wsX5_fail) := goodIn_app (goodIn_of _ (by decide +kernel)) ggX5_readName_X5_fail
set_option maxRecDepth 100000 in
theorem ggX5_readName_X9_mention : GoodIn wsX5_readName wsX9_mention := goodIn_r _ [30, 31, 32, 33, 34, 35, 29, 36, 55, 56, 57, 58, 59, 60, 61, 62] rfl (by decide +kernel)
set_option maxRecDepth 100000 in
theorem gX5_readName_X9_mention : GoodIn wsX5_readName (wsV RX5 103 RX9 yX9_mention wsX9_mention) := goodIn_app (goodIn_of _ (by decide +kernel)) ggX5_readName_X9_mention
set_option maxRecDepth 100000 in
theorem ggX5_readName_X9_putWord : GoodIn wsX5_readName wsX9_putWord := goodIn_r _ [40, 41, 42, 43, 55, 56, 57, 58, 59, 60, 61, 62] rfl (by decide +kernel)
set_option maxRecDepth 100000 in
theorem gX5_readName_X9_putWord : GoodIn wsX5_readName (wsV RX5 107 RX9 yX9_putWord wsX9_putWord) := goodIn_app (goodIn_of _ (by decide +kernel)) ggX5_readName_X9_putWord
theorem dX5_readName_0 : decode cX5_readName 0 = .ok (.aload_n 0, 1) := by decide +kernel
theorem dX5_readName_1 : decode cX5_readName 1 = .ok (.invokevirtual 47, 3) := by decide +kernel
theorem dX5_readName_4 : decode cX5_readName 4 = .ok (.aload_n 0, 1) := by decide +kernel
theorem dX5_readName_5 : decode cX5_readName 5 = .ok (.getfield 38, 3) := by decide +kernel
theorem dX5_readName_8 : decode cX5_readName 8 = .ok (.istore_n 1, 1) := by decide +kernel
theorem dX5_readName_9 : decode cX5_readName 9 = .ok (.aload_n 0, 1) := by decide +kernel
theorem dX5_readName_10 : decode cX5_readName 10 = .ok (.invokevirtual 56, 3) := by decide +kernel
theorem dX5_readName_13 : decode cX5_readName 13 = .ok (.lstore_n 2, 1) := by decide +kernel
theorem dX5_readName_14 : decode cX5_readName 14 = .ok (.lload_n 2, 1) := by decide +kernel
theorem dX5_readName_15 : decode cX5_readName 15 = .ok (.lconst 0, 1) := by decide +kernel
theorem dX5_readName_16 : decode cX5_readName 16 = .ok (.lcmp, 1) := by decide +kernel
theorem dX5_readName_17 : decode cX5_readName 17 = .ok (.ifCond .ne 10, 3) := by decide +kernel
theorem dX5_readName_20 : decode cX5_readName 20 = .ok (.aload_n 0, 1) := by decide +kernel
theorem dX5_readName_21 : decode cX5_readName 21 = .ok (.bipush (-2), 2) := by decide +kernel
theorem dX5_readName_23 : decode cX5_readName 23 = .ok (.iload_n 1, 1) := by decide +kernel
theorem dX5_readName_24 : decode cX5_readName 24 = .ok (.invokevirtual 76, 3) := by decide +kernel
theorem dX5_readName_27 : decode cX5_readName 27 = .ok (.aload_n 0, 1) := by decide +kernel
theorem dX5_readName_28 : decode cX5_readName 28 = .ok (.getfield 41, 3) := by decide +kernel
theorem dX5_readName_31 : decode cX5_readName 31 = .ok (.ifCond .eq 4, 3) := by decide +kernel
theorem dX5_readName_34 : decode cX5_readName 34 = .ok (.return_, 1) := by decide +kernel
theorem dX5_readName_35 : decode cX5_readName 35 = .ok (.aload_n 0, 1) := by decide +kernel
theorem dX5_readName_36 : decode cX5_readName 36 = .ok (.getfield 18, 3) := by decide +kernel
theorem dX5_readName_39 : decode cX5_readName 39 = .ok (.getfield 80, 3) := by decide +kernel
theorem dX5_readName_42 : decode cX5_readName 42 = .ok (.astore 4, 2) := by decide +kernel
theorem dX5_readName_44 : decode cX5_readName 44 = .ok (.aload 4, 2) := by decide +kernel
theorem dX5_readName_46 : decode cX5_readName 46 = .ok (.getfield 84, 3) := by decide +kernel
theorem dX5_readName_49 : decode cX5_readName 49 = .ok (.iconst 1, 1) := by decide +kernel
theorem dX5_readName_50 : decode cX5_readName 50 = .ok (.isub, 1) := by decide +kernel
theorem dX5_readName_51 : decode cX5_readName 51 = .ok (.istore 5, 2) := by decide +kernel
theorem dX5_readName_53 : decode cX5_readName 53 = .ok (.aload 4, 2) := by decide +kernel
theorem dX5_readName_55 : decode cX5_readName 55 = .ok (.lload_n 2, 1) := by decide +kernel
theorem dX5_readName_56 : decode cX5_readName 56 = .ok (.invokevirtual 103, 3) := by decide +kernel
theorem dX5_readName_59 : decode cX5_readName 59 = .ok (.istore 6, 2) := by decide +kernel
theorem dX5_readName_61 : decode cX5_readName 61 = .ok (.iload 5, 2) := by decide +kernel
theorem dX5_readName_63 : decode cX5_readName 63 = .ok (.ifCond .lt 21, 3) := by decide +kernel
theorem dX5_readName_66 : decode cX5_readName 66 = .ok (.iload 6, 2) := by decide +kernel
theorem dX5_readName_68 : decode cX5_readName 68 = .ok (.iconst (-1), 1) := by decide +kernel
theorem dX5_readName_69 : decode cX5_readName 69 = .ok (.if_icmp .eq 15, 3) := by decide +kernel
theorem dX5_readName_72 : decode cX5_readName 72 = .ok (.aload 4, 2) := by decide +kernel
theorem dX5_readName_74 : decode cX5_readName 74 = .ok (.iload 5, 2) := by decide +kernel
theorem dX5_readName_76 : decode cX5_readName 76 = .ok (.iload 6, 2) := by decide +kernel
theorem dX5_readName_78 : decode cX5_readName 78 = .ok (.invokevirtual 107, 3) := by decide +kernel
theorem dX5_readName_81 : decode cX5_readName 81 = .ok (.ifCond .ne 10, 3) := by decide +kernel
theorem dX5_readName_84 : decode cX5_readName 84 = .ok (.aload_n 0, 1) := by decide +kernel
theorem dX5_readName_85 : decode cX5_readName 85 = .ok (.bipush (-4), 2) := by decide +kernel
theorem dX5_readName_87 : decode cX5_readName 87 = .ok (.iload_n 1, 1) := by decide +kernel
theorem dX5_readName_88 : decode cX5_readName 88 = .ok (.invokevirtual 76, 3) := by decide +kernel
theorem dX5_readName_91 : decode cX5_readName 91 = .ok (.return_, 1) := by decide +kernel
set_option maxRecDepth 100000 in
theorem ggX5_readSlot_X5_fail : GoodIn wsX5_readSlot wsX5_fail := goodIn_r _ [8, 9, 10, 44, 45, 46, 47, 48, 49, 50] rfl (by decide +kernel)
set_option maxRecDepth 100000 in
theorem gX5_readSlot_X5_fail : GoodIn wsX5_readSlot (wsV RX5 76 RX5 yX5_fail wsX5_fail) := goodIn_app (goodIn_of _ (by decide +kernel)) ggX5_readSlot_X5_fail
set_option maxRecDepth 100000 in
theorem ggX5_readSlot_X5_readNumber : GoodIn wsX5_readSlot wsX5_readNumber := goodIn_r _ [14, 15, 16, 17, 18, 19, 20, 21, 22, 23, 24, 25, 7, 26, 27, 28, 29, 30, 4, 5, 6, 8, 9, 10, 44, 45, 46, 47, 48, 49, 50] rfl (by decide +kernel)
set_option maxRecDepth 100000 in
theorem gX5_readSlot_X5_readNumber : GoodIn wsX5_readSlot (wsV RX5 89 RX5 yX5_readNumber wsX5_readNumber) := goodIn_app (goodIn_of _ (by decide +kernel)) ggX5_readSlot_X5_readNumber
set_option maxRecDepth 100000 in
theorem ggX5_readSlot_X7_insert : GoodIn wsX5_readSlot wsX7_insert := goodIn_r _ [35, 36, 37, 38, 39, 40, 41, 42, 34, 43, 55, 56, 57, 58] rfl (by decide +kernel)
set_option maxRecDepth 100000 in
theorem gX5_readSlot_X7_insert : GoodIn wsX5_readSlot (wsV RX5 119 RX7 yX7_insert wsX7_insert) := goodIn_app (goodIn_of _ (by decide +kernel)) ggX5_readSlot_X7_insert
theorem dX5_readSlot_0 : decode cX5_readSlot 0 = .ok (.aload_n 0, 1) := by decide +kernel
theorem dX5_readSlot_1 : decode cX5_readSlot 1 = .ok (.getfield 18, 3) := by decide +kernel
theorem dX5_readSlot_4 : decode cX5_readSlot 4 = .ok (.getfield 110, 3) := by decide +kernel
theorem dX5_readSlot_7 : decode cX5_readSlot 7 = .ok (.getfield 114, 3) := by decide +kernel
theorem dX5_readSlot_10 : decode cX5_readSlot 10 = .ok (.iconst 5, 1) := by decide +kernel
theorem dX5_readSlot_11 : decode cX5_readSlot 11 = .ok (.if_icmp .lt 11, 3) := by decide +kernel
theorem dX5_readSlot_14 : decode cX5_readSlot 14 = .ok (.aload_n 0, 1) := by decide +kernel
theorem dX5_readSlot_15 : decode cX5_readSlot 15 = .ok (.bipush (-4), 2) := by decide +kernel
theorem dX5_readSlot_17 : decode cX5_readSlot 17 = .ok (.iload_n 1, 1) := by decide +kernel
theorem dX5_readSlot_18 : decode cX5_readSlot 18 = .ok (.invokevirtual 76, 3) := by decide +kernel
theorem dX5_readSlot_21 : decode cX5_readSlot 21 = .ok (.return_, 1) := by decide +kernel
theorem dX5_readSlot_22 : decode cX5_readSlot 22 = .ok (.aload_n 0, 1) := by decide +kernel
theorem dX5_readSlot_23 : decode cX5_readSlot 23 = .ok (.iconst 0, 1) := by decide +kernel
theorem dX5_readSlot_24 : decode cX5_readSlot 24 = .ok (.sipush 9999, 3) := by decide +kernel
theorem dX5_readSlot_27 : decode cX5_readSlot 27 = .ok (.invokevirtual 89, 3) := by decide +kernel
theorem dX5_readSlot_30 : decode cX5_readSlot 30 = .ok (.istore_n 2, 1) := by decide +kernel
theorem dX5_readSlot_31 : decode cX5_readSlot 31 = .ok (.aload_n 0, 1) := by decide +kernel
theorem dX5_readSlot_32 : decode cX5_readSlot 32 = .ok (.iconst 1, 1) := by decide +kernel
theorem dX5_readSlot_33 : decode cX5_readSlot 33 = .ok (.sipush 300, 3) := by decide +kernel
theorem dX5_readSlot_36 : decode cX5_readSlot 36 = .ok (.invokevirtual 89, 3) := by decide +kernel
theorem dX5_readSlot_39 : decode cX5_readSlot 39 = .ok (.istore_n 3, 1) := by decide +kernel
theorem dX5_readSlot_40 : decode cX5_readSlot 40 = .ok (.aload_n 0, 1) := by decide +kernel
theorem dX5_readSlot_41 : decode cX5_readSlot 41 = .ok (.iconst 0, 1) := by decide +kernel
theorem dX5_readSlot_42 : decode cX5_readSlot 42 = .ok (.sipush 999, 3) := by decide +kernel
theorem dX5_readSlot_45 : decode cX5_readSlot 45 = .ok (.invokevirtual 89, 3) := by decide +kernel
theorem dX5_readSlot_48 : decode cX5_readSlot 48 = .ok (.istore 4, 2) := by decide +kernel
theorem dX5_readSlot_50 : decode cX5_readSlot 50 = .ok (.aload_n 0, 1) := by decide +kernel
theorem dX5_readSlot_51 : decode cX5_readSlot 51 = .ok (.getfield 18, 3) := by decide +kernel
theorem dX5_readSlot_54 : decode cX5_readSlot 54 = .ok (.getfield 110, 3) := by decide +kernel
theorem dX5_readSlot_57 : decode cX5_readSlot 57 = .ok (.iload_n 2, 1) := by decide +kernel
theorem dX5_readSlot_58 : decode cX5_readSlot 58 = .ok (.iload_n 3, 1) := by decide +kernel
theorem dX5_readSlot_59 : decode cX5_readSlot 59 = .ok (.iload 4, 2) := by decide +kernel
theorem dX5_readSlot_61 : decode cX5_readSlot 61 = .ok (.invokevirtual 119, 3) := by decide +kernel
theorem dX5_readSlot_64 : decode cX5_readSlot 64 = .ok (.pop, 1) := by decide +kernel
theorem dX5_readSlot_65 : decode cX5_readSlot 65 = .ok (.return_, 1) := by decide +kernel
set_option maxRecDepth 100000 in
theorem ggX5_readSetting_X5_readNumber : GoodIn wsX5_readSetting wsX5_readNumber := goodIn_r _ [7, 8, 9, 10, 11, 12, 13, 14, 15, 16, 17, 18, 6, 19, 20, 21, 22, 23, 24, 25, 26, 27, 28, 29, 30, 31, 32, 33, 34, 35, 36] rfl (by decide +kernel)
set_option maxRecDepth 100000 in
theorem gX5_readSetting_X5_readNumber : GoodIn wsX5_readSetting (wsV RX5 89 RX5 yX5_readNumber wsX5_readNumber) := goodIn_app (goodIn_of _ (by decide +kernel)) ggX5_readSetting_X5_readNumber
theorem dX5_readSetting_0 : decode cX5_readSetting 0 = .ok (.aload_n 0, 1) := by decide +kernel
theorem dX5_readSetting_1 : decode cX5_readSetting 1 = .ok (.iconst 0, 1) := by decide +kernel
theorem dX5_readSetting_2 : decode cX5_readSetting 2 = .ok (.iconst 5, 1) := by decide +kernel
theorem dX5_readSetting_3 : decode cX5_readSetting 3 = .ok (.invokevirtual 89, 3) := by decide +kernel
theorem dX5_readSetting_6 : decode cX5_readSetting 6 = .ok (.istore_n 1, 1) := by decide +kernel
theorem dX5_readSetting_7 : decode cX5_readSetting 7 = .ok (.aload_n 0, 1) := by decide +kernel
theorem dX5_readSetting_8 : decode cX5_readSetting 8 = .ok (.getfield 18, 3) := by decide +kernel
theorem dX5_readSetting_11 : decode cX5_readSetting 11 = .ok (.getfield 123, 3) := by decide +kernel
theorem dX5_readSetting_14 : decode cX5_readSetting 14 = .ok (.iload_n 1, 1) := by decide +kernel
theorem dX5_readSetting_15 : decode cX5_readSetting 15 = .ok (.aload_n 0, 1) := by decide +kernel
theorem dX5_readSetting_16 : decode cX5_readSetting 16 = .ok (.getstatic 126, 3) := by decide +kernel
theorem dX5_readSetting_19 : decode cX5_readSetting 19 = .ok (.iload_n 1, 1) := by decide +kernel
theorem dX5_readSetting_20 : decode cX5_readSetting 20 = .ok (.iaload, 1) := by decide +kernel
theorem dX5_readSetting_21 : decode cX5_readSetting 21 = .ok (.getstatic 129, 3) := by decide +kernel
theorem dX5_readSetting_24 : decode cX5_readSetting 24 = .ok (.iload_n 1, 1) := by decide +kernel
theorem dX5_readSetting_25 : decode cX5_readSetting 25 = .ok (.iaload, 1) := by decide +kernel
theorem dX5_readSetting_26 : decode cX5_readSetting 26 = .ok (.invokevirtual 89, 3) := by decide +kernel
theorem dX5_readSetting_29 : decode cX5_readSetting 29 = .ok (.iastore, 1) := by decide +kernel
theorem dX5_readSetting_30 : decode cX5_readSetting 30 = .ok (.return_, 1) := by decide +kernel
set_option maxRecDepth 100000 in
theorem ggX5_readSemicolon_X5_skipSpaces : GoodIn wsX5_readSemicolon wsX5_skipSpaces := goodIn_r _ [8, 1, 2, 3, 15, 16, 17, 18, 19, 20, 21] rfl (by decide +kernel)
set_option maxRecDepth 100000 in
theorem gX5_readSemicolon_X5_skipSpaces : GoodIn wsX5_readSemicolon (wsV RX5 47 RX5 yX5_skipSpaces wsX5_skipSpaces) := goodIn_app (goodIn_of _ (by decide +kernel)) ggX5_readSemicolon_X5_skipSpaces
set_option maxRecDepth 100000 in
theorem ggX5_readSemicolon_X5_fail : GoodIn wsX5_readSemicolon wsX5_fail := goodIn_r _ [12, 13, 14, 15, 16, 17, 18, 19, 20, 21] rfl (by decide +kernel)
set_option maxRecDepth 100000 in
theorem gX5_readSemicolon_X5_fail : GoodIn wsX5_readSemicolon (wsV RX5 76 RX5 yX5_fail wsX5_fail) := goodIn_app (goodIn_of _ (by decide +kernel)) ggX5_readSemicolon_X5_fail
theorem dX5_readSemicolon_0 : decode cX5_readSemicolon 0 = .ok (.aload_n 0, 1) := by decide +kernel
theorem dX5_readSemicolon_1 : decode cX5_readSemicolon 1 = .ok (.invokevirtual 47, 3) := by decide +kernel
theorem dX5_readSemicolon_4 : decode cX5_readSemicolon 4 = .ok (.aload_n 0, 1) := by decide +kernel
theorem dX5_readSemicolon_5 : decode cX5_readSemicolon 5 = .ok (.getfield 38, 3) := by decide +kernel
theorem dX5_readSemicolon_8 : decode cX5_readSemicolon 8 = .ok (.aload_n 0, 1) := by decide +kernel
theorem dX5_readSemicolon_9 : decode cX5_readSemicolon 9 = .ok (.getfield 35, 3) := by decide +kernel
theorem dX5_readSemicolon_12 : decode cX5_readSemicolon 12 = .ok (.if_icmp .ge 30, 3) := by decide +kernel
theorem dX5_readSemicolon_15 : decode cX5_readSemicolon 15 = .ok (.aload_n 0, 1) := by decide +kernel
theorem dX5_readSemicolon_16 : decode cX5_readSemicolon 16 = .ok (.getfield 22, 3) := by decide +kernel
theorem dX5_readSemicolon_19 : decode cX5_readSemicolon 19 = .ok (.aload_n 0, 1) := by decide +kernel
theorem dX5_readSemicolon_20 : decode cX5_readSemicolon 20 = .ok (.getfield 38, 3) := by decide +kernel
theorem dX5_readSemicolon_23 : decode cX5_readSemicolon 23 = .ok (.iaload, 1) := by decide +kernel
theorem dX5_readSemicolon_24 : decode cX5_readSemicolon 24 = .ok (.bipush 59, 2) := by decide +kernel
theorem dX5_readSemicolon_26 : decode cX5_readSemicolon 26 = .ok (.if_icmp .ne 16, 3) := by decide +kernel
theorem dX5_readSemicolon_29 : decode cX5_readSemicolon 29 = .ok (.aload_n 0, 1) := by decide +kernel
theorem dX5_readSemicolon_30 : decode cX5_readSemicolon 30 = .ok (.dup, 1) := by decide +kernel
theorem dX5_readSemicolon_31 : decode cX5_readSemicolon 31 = .ok (.getfield 38, 3) := by decide +kernel
theorem dX5_readSemicolon_34 : decode cX5_readSemicolon 34 = .ok (.iconst 1, 1) := by decide +kernel
theorem dX5_readSemicolon_35 : decode cX5_readSemicolon 35 = .ok (.iadd, 1) := by decide +kernel
theorem dX5_readSemicolon_36 : decode cX5_readSemicolon 36 = .ok (.putfield 38, 3) := by decide +kernel
theorem dX5_readSemicolon_39 : decode cX5_readSemicolon 39 = .ok (.goto 13, 3) := by decide +kernel
theorem dX5_readSemicolon_42 : decode cX5_readSemicolon 42 = .ok (.aload_n 0, 1) := by decide +kernel
theorem dX5_readSemicolon_43 : decode cX5_readSemicolon 43 = .ok (.bipush (-2), 2) := by decide +kernel
theorem dX5_readSemicolon_45 : decode cX5_readSemicolon 45 = .ok (.aload_n 0, 1) := by decide +kernel
theorem dX5_readSemicolon_46 : decode cX5_readSemicolon 46 = .ok (.getfield 38, 3) := by decide +kernel
theorem dX5_readSemicolon_49 : decode cX5_readSemicolon 49 = .ok (.invokevirtual 76, 3) := by decide +kernel
theorem dX5_readSemicolon_52 : decode cX5_readSemicolon 52 = .ok (.return_, 1) := by decide +kernel
set_option maxRecDepth 100000 in
theorem ggX5_readNumber_X5_skipSpaces : GoodIn wsX5_readNumber wsX5_skipSpaces := goodIn_r _ [13, 1, 2, 4, 24, 25, 26, 27, 28, 29, 30] rfl (by decide +kernel)
set_option maxRecDepth 100000 in
theorem gX5_readNumber_X5_skipSpaces : GoodIn wsX5_readNumber (wsV RX5 47 RX5 yX5_skipSpaces wsX5_skipSpaces) := goodIn_app (goodIn_of _ (by decide +kernel)) ggX5_readNumber_X5_skipSpaces
set_option maxRecDepth 100000 in
theorem ggX5_readNumber_X5_isDigit : GoodIn wsX5_readNumber wsX5_isDigit := goodIn_r _ [17, 1, 2, 4, 24, 25, 26, 27, 28, 29, 30] rfl (by decide +kernel)
set_option maxRecDepth 100000 in
theorem gX5_readNumber_X5_isDigit : GoodIn wsX5_readNumber (wsV RX5 132 RX5 yX5_isDigit wsX5_isDigit) := goodIn_app (goodIn_of _ (by decide +kernel)) ggX5_readNumber_X5_isDigit
set_option maxRecDepth 100000 in
theorem ggX5_readNumber_X5_fail : GoodIn wsX5_readNumber wsX5_fail := goodIn_r _ [21, 22, 23, 24, 25, 26, 27, 28, 29, 30] rfl (by decide +kernel)
set_option maxRecDepth 100000 in
theorem gX5_readNumber_X5_fail : GoodIn wsX5_readNumber (wsV RX5 76 RX5 yX5_fail wsX5_fail) := goodIn_app (goodIn_of _ (by decide +kernel)) ggX5_readNumber_X5_fail
theorem dX5_readNumber_0 : decode cX5_readNumber 0 = .ok (.aload_n 0, 1) := by decide +kernel
theorem dX5_readNumber_1 : decode cX5_readNumber 1 = .ok (.invokevirtual 47, 3) := by decide +kernel
theorem dX5_readNumber_4 : decode cX5_readNumber 4 = .ok (.aload_n 0, 1) := by decide +kernel
theorem dX5_readNumber_5 : decode cX5_readNumber 5 = .ok (.getfield 38, 3) := by decide +kernel
theorem dX5_readNumber_8 : decode cX5_readNumber 8 = .ok (.istore_n 3, 1) := by decide +kernel
theorem dX5_readNumber_9 : decode cX5_readNumber 9 = .ok (.iconst 0, 1) := by decide +kernel
theorem dX5_readNumber_10 : decode cX5_readNumber 10 = .ok (.istore 4, 2) := by decide +kernel
theorem dX5_readNumber_12 : decode cX5_readNumber 12 = .ok (.aload_n 0, 1) := by decide +kernel
theorem dX5_readNumber_13 : decode cX5_readNumber 13 = .ok (.getfield 38, 3) := by decide +kernel
theorem dX5_readNumber_16 : decode cX5_readNumber 16 = .ok (.aload_n 0, 1) := by decide +kernel
theorem dX5_readNumber_17 : decode cX5_readNumber 17 = .ok (.getfield 35, 3) := by decide +kernel
theorem dX5_readNumber_20 : decode cX5_readNumber 20 = .ok (.if_icmp .ge 48, 3) := by decide +kernel
theorem dX5_readNumber_23 : decode cX5_readNumber 23 = .ok (.aload_n 0, 1) := by decide +kernel
theorem dX5_readNumber_24 : decode cX5_readNumber 24 = .ok (.invokevirtual 132, 3) := by decide +kernel
theorem dX5_readNumber_27 : decode cX5_readNumber 27 = .ok (.ifCond .eq 41, 3) := by decide +kernel
theorem dX5_readNumber_30 : decode cX5_readNumber 30 = .ok (.ldc 135, 2) := by decide +kernel
theorem dX5_readNumber_32 : decode cX5_readNumber 32 = .ok (.iload 4, 2) := by decide +kernel
theorem dX5_readNumber_34 : decode cX5_readNumber 34 = .ok (.bipush 10, 2) := by decide +kernel
theorem dX5_readNumber_36 : decode cX5_readNumber 36 = .ok (.imul, 1) := by decide +kernel
theorem dX5_readNumber_37 : decode cX5_readNumber 37 = .ok (.aload_n 0, 1) := by decide +kernel
theorem dX5_readNumber_38 : decode cX5_readNumber 38 = .ok (.getfield 22, 3) := by decide +kernel
theorem dX5_readNumber_41 : decode cX5_readNumber 41 = .ok (.aload_n 0, 1) := by decide +kernel
theorem dX5_readNumber_42 : decode cX5_readNumber 42 = .ok (.getfield 38, 3) := by decide +kernel
theorem dX5_readNumber_45 : decode cX5_readNumber 45 = .ok (.iaload, 1) := by decide +kernel
theorem dX5_readNumber_46 : decode cX5_readNumber 46 = .ok (.iadd, 1) := by decide +kernel
theorem dX5_readNumber_47 : decode cX5_readNumber 47 = .ok (.bipush 48, 2) := by decide +kernel
theorem dX5_readNumber_49 : decode cX5_readNumber 49 = .ok (.isub, 1) := by decide +kernel
theorem dX5_readNumber_50 : decode cX5_readNumber 50 = .ok (.invokestatic 29, 3) := by decide +kernel
theorem dX5_readNumber_53 : decode cX5_readNumber 53 = .ok (.istore 4, 2) := by decide +kernel
theorem dX5_readNumber_55 : decode cX5_readNumber 55 = .ok (.aload_n 0, 1) := by decide +kernel
theorem dX5_readNumber_56 : decode cX5_readNumber 56 = .ok (.dup, 1) := by decide +kernel
theorem dX5_readNumber_57 : decode cX5_readNumber 57 = .ok (.getfield 38, 3) := by decide +kernel
theorem dX5_readNumber_60 : decode cX5_readNumber 60 = .ok (.iconst 1, 1) := by decide +kernel
theorem dX5_readNumber_61 : decode cX5_readNumber 61 = .ok (.iadd, 1) := by decide +kernel
theorem dX5_readNumber_62 : decode cX5_readNumber 62 = .ok (.putfield 38, 3) := by decide +kernel
theorem dX5_readNumber_65 : decode cX5_readNumber 65 = .ok (.goto (-53), 3) := by decide +kernel
theorem dX5_readNumber_68 : decode cX5_readNumber 68 = .ok (.aload_n 0, 1) := by decide +kernel
theorem dX5_readNumber_69 : decode cX5_readNumber 69 = .ok (.getfield 38, 3) := by decide +kernel
theorem dX5_readNumber_72 : decode cX5_readNumber 72 = .ok (.iload_n 3, 1) := by decide +kernel
theorem dX5_readNumber_73 : decode cX5_readNumber 73 = .ok (.if_icmp .ne 12, 3) := by decide +kernel
theorem dX5_readNumber_76 : decode cX5_readNumber 76 = .ok (.aload_n 0, 1) := by decide +kernel
theorem dX5_readNumber_77 : decode cX5_readNumber 77 = .ok (.bipush (-2), 2) := by decide +kernel
theorem dX5_readNumber_79 : decode cX5_readNumber 79 = .ok (.iload_n 3, 1) := by decide +kernel
theorem dX5_readNumber_80 : decode cX5_readNumber 80 = .ok (.invokevirtual 76, 3) := by decide +kernel
theorem dX5_readNumber_83 : decode cX5_readNumber 83 = .ok (.iload_n 1, 1) := by decide +kernel
theorem dX5_readNumber_84 : decode cX5_readNumber 84 = .ok (.ireturn, 1) := by decide +kernel
theorem dX5_readNumber_85 : decode cX5_readNumber 85 = .ok (.iload 4, 2) := by decide +kernel
theorem dX5_readNumber_87 : decode cX5_readNumber 87 = .ok (.iload_n 1, 1) := by decide +kernel
theorem dX5_readNumber_88 : decode cX5_readNumber 88 = .ok (.if_icmp .lt 9, 3) := by decide +kernel
theorem dX5_readNumber_91 : decode cX5_readNumber 91 = .ok (.iload 4, 2) := by decide +kernel
theorem dX5_readNumber_93 : decode cX5_readNumber 93 = .ok (.iload_n 2, 1) := by decide +kernel
theorem dX5_readNumber_94 : decode cX5_readNumber 94 = .ok (.if_icmp .le 12, 3) := by decide +kernel
theorem dX5_readNumber_97 : decode cX5_readNumber 97 = .ok (.aload_n 0, 1) := by decide +kernel
theorem dX5_readNumber_98 : decode cX5_readNumber 98 = .ok (.bipush (-3), 2) := by decide +kernel
theorem dX5_readNumber_100 : decode cX5_readNumber 100 = .ok (.iload_n 3, 1) := by decide +kernel
theorem dX5_readNumber_101 : decode cX5_readNumber 101 = .ok (.invokevirtual 76, 3) := by decide +kernel
theorem dX5_readNumber_104 : decode cX5_readNumber 104 = .ok (.iload_n 1, 1) := by decide +kernel
theorem dX5_readNumber_105 : decode cX5_readNumber 105 = .ok (.ireturn, 1) := by decide +kernel
theorem dX5_readNumber_106 : decode cX5_readNumber 106 = .ok (.iload 4, 2) := by decide +kernel
theorem dX5_readNumber_108 : decode cX5_readNumber 108 = .ok (.ireturn, 1) := by decide +kernel
set_option maxRecDepth 100000 in
theorem ggX5_readWord_X5_isLetter : GoodIn wsX5_readWord wsX5_isLetter := goodIn_r _ [8, 1, 2, 3, 9, 10, 11, 12, 13, 14, 15] rfl (by decide +kernel)
set_option maxRecDepth 100000 in
theorem gX5_readWord_X5_isLetter : GoodIn wsX5_readWord (wsV RX5 99 RX5 yX5_isLetter wsX5_isLetter) := goodIn_app (goodIn_of _ (by decide +kernel)) ggX5_readWord_X5_isLetter
theorem dX5_readWord_0 : decode cX5_readWord 0 = .ok (.lconst 0, 1) := by decide +kernel
theorem dX5_readWord_1 : decode cX5_readWord 1 = .ok (.lstore_n 1, 1) := by decide +kernel
theorem dX5_readWord_2 : decode cX5_readWord 2 = .ok (.aload_n 0, 1) := by decide +kernel
theorem dX5_readWord_3 : decode cX5_readWord 3 = .ok (.getfield 38, 3) := by decide +kernel
theorem dX5_readWord_6 : decode cX5_readWord 6 = .ok (.istore_n 3, 1) := by decide +kernel
theorem dX5_readWord_7 : decode cX5_readWord 7 = .ok (.aload_n 0, 1) := by decide +kernel
theorem dX5_readWord_8 : decode cX5_readWord 8 = .ok (.getfield 38, 3) := by decide +kernel
theorem dX5_readWord_11 : decode cX5_readWord 11 = .ok (.aload_n 0, 1) := by decide +kernel
theorem dX5_readWord_12 : decode cX5_readWord 12 = .ok (.getfield 35, 3) := by decide +kernel
theorem dX5_readWord_15 : decode cX5_readWord 15 = .ok (.if_icmp .ge 43, 3) := by decide +kernel
theorem dX5_readWord_18 : decode cX5_readWord 18 = .ok (.aload_n 0, 1) := by decide +kernel
theorem dX5_readWord_19 : decode cX5_readWord 19 = .ok (.invokevirtual 99, 3) := by decide +kernel
theorem dX5_readWord_22 : decode cX5_readWord 22 = .ok (.ifCond .eq 36, 3) := by decide +kernel
theorem dX5_readWord_25 : decode cX5_readWord 25 = .ok (.lload_n 1, 1) := by decide +kernel
theorem dX5_readWord_26 : decode cX5_readWord 26 = .ok (.iconst 5, 1) := by decide +kernel
theorem dX5_readWord_27 : decode cX5_readWord 27 = .ok (.lshl, 1) := by decide +kernel
theorem dX5_readWord_28 : decode cX5_readWord 28 = .ok (.aload_n 0, 1) := by decide +kernel
theorem dX5_readWord_29 : decode cX5_readWord 29 = .ok (.getfield 22, 3) := by decide +kernel
theorem dX5_readWord_32 : decode cX5_readWord 32 = .ok (.aload_n 0, 1) := by decide +kernel
theorem dX5_readWord_33 : decode cX5_readWord 33 = .ok (.getfield 38, 3) := by decide +kernel
theorem dX5_readWord_36 : decode cX5_readWord 36 = .ok (.iaload, 1) := by decide +kernel
theorem dX5_readWord_37 : decode cX5_readWord 37 = .ok (.bipush 97, 2) := by decide +kernel
theorem dX5_readWord_39 : decode cX5_readWord 39 = .ok (.isub, 1) := by decide +kernel
theorem dX5_readWord_40 : decode cX5_readWord 40 = .ok (.iconst 1, 1) := by decide +kernel
theorem dX5_readWord_41 : decode cX5_readWord 41 = .ok (.iadd, 1) := by decide +kernel
theorem dX5_readWord_42 : decode cX5_readWord 42 = .ok (.i2l, 1) := by decide +kernel
theorem dX5_readWord_43 : decode cX5_readWord 43 = .ok (.lor, 1) := by decide +kernel
theorem dX5_readWord_44 : decode cX5_readWord 44 = .ok (.lstore_n 1, 1) := by decide +kernel
theorem dX5_readWord_45 : decode cX5_readWord 45 = .ok (.aload_n 0, 1) := by decide +kernel
theorem dX5_readWord_46 : decode cX5_readWord 46 = .ok (.dup, 1) := by decide +kernel
theorem dX5_readWord_47 : decode cX5_readWord 47 = .ok (.getfield 38, 3) := by decide +kernel
theorem dX5_readWord_50 : decode cX5_readWord 50 = .ok (.iconst 1, 1) := by decide +kernel
theorem dX5_readWord_51 : decode cX5_readWord 51 = .ok (.iadd, 1) := by decide +kernel
theorem dX5_readWord_52 : decode cX5_readWord 52 = .ok (.putfield 38, 3) := by decide +kernel
theorem dX5_readWord_55 : decode cX5_readWord 55 = .ok (.goto (-48), 3) := by decide +kernel
theorem dX5_readWord_58 : decode cX5_readWord 58 = .ok (.aload_n 0, 1) := by decide +kernel
theorem dX5_readWord_59 : decode cX5_readWord 59 = .ok (.getfield 38, 3) := by decide +kernel
theorem dX5_readWord_62 : decode cX5_readWord 62 = .ok (.iload_n 3, 1) := by decide +kernel
theorem dX5_readWord_63 : decode cX5_readWord 63 = .ok (.isub, 1) := by decide +kernel
theorem dX5_readWord_64 : decode cX5_readWord 64 = .ok (.bipush 8, 2) := by decide +kernel
theorem dX5_readWord_66 : decode cX5_readWord 66 = .ok (.if_icmp .gt 7, 3) := by decide +kernel
theorem dX5_readWord_69 : decode cX5_readWord 69 = .ok (.lload_n 1, 1) := by decide +kernel
theorem dX5_readWord_70 : decode cX5_readWord 70 = .ok (.goto 4, 3) := by decide +kernel
theorem dX5_readWord_73 : decode cX5_readWord 73 = .ok (.lconst 0, 1) := by decide +kernel
theorem dX5_readWord_74 : decode cX5_readWord 74 = .ok (.lreturn, 1) := by decide +kernel
theorem dX5_skipSpaces_0 : decode cX5_skipSpaces 0 = .ok (.aload_n 0, 1) := by decide +kernel
theorem dX5_skipSpaces_1 : decode cX5_skipSpaces 1 = .ok (.getfield 38, 3) := by decide +kernel
theorem dX5_skipSpaces_4 : decode cX5_skipSpaces 4 = .ok (.aload_n 0, 1) := by decide +kernel
theorem dX5_skipSpaces_5 : decode cX5_skipSpaces 5 = .ok (.getfield 35, 3) := by decide +kernel
theorem dX5_skipSpaces_8 : decode cX5_skipSpaces 8 = .ok (.if_icmp .ge 30, 3) := by decide +kernel
theorem dX5_skipSpaces_11 : decode cX5_skipSpaces 11 = .ok (.aload_n 0, 1) := by decide +kernel
theorem dX5_skipSpaces_12 : decode cX5_skipSpaces 12 = .ok (.getfield 22, 3) := by decide +kernel
theorem dX5_skipSpaces_15 : decode cX5_skipSpaces 15 = .ok (.aload_n 0, 1) := by decide +kernel
theorem dX5_skipSpaces_16 : decode cX5_skipSpaces 16 = .ok (.getfield 38, 3) := by decide +kernel
theorem dX5_skipSpaces_19 : decode cX5_skipSpaces 19 = .ok (.iaload, 1) := by decide +kernel
theorem dX5_skipSpaces_20 : decode cX5_skipSpaces 20 = .ok (.bipush 32, 2) := by decide +kernel
theorem dX5_skipSpaces_22 : decode cX5_skipSpaces 22 = .ok (.if_icmp .ne 16, 3) := by decide +kernel
theorem dX5_skipSpaces_25 : decode cX5_skipSpaces 25 = .ok (.aload_n 0, 1) := by decide +kernel
theorem dX5_skipSpaces_26 : decode cX5_skipSpaces 26 = .ok (.dup, 1) := by decide +kernel
theorem dX5_skipSpaces_27 : decode cX5_skipSpaces 27 = .ok (.getfield 38, 3) := by decide +kernel
theorem dX5_skipSpaces_30 : decode cX5_skipSpaces 30 = .ok (.iconst 1, 1) := by decide +kernel
theorem dX5_skipSpaces_31 : decode cX5_skipSpaces 31 = .ok (.iadd, 1) := by decide +kernel
theorem dX5_skipSpaces_32 : decode cX5_skipSpaces 32 = .ok (.putfield 38, 3) := by decide +kernel
theorem dX5_skipSpaces_35 : decode cX5_skipSpaces 35 = .ok (.goto (-35), 3) := by decide +kernel
theorem dX5_skipSpaces_38 : decode cX5_skipSpaces 38 = .ok (.return_, 1) := by decide +kernel
theorem dX5_isLetter_0 : decode cX5_isLetter 0 = .ok (.aload_n 0, 1) := by decide +kernel
theorem dX5_isLetter_1 : decode cX5_isLetter 1 = .ok (.getfield 38, 3) := by decide +kernel
theorem dX5_isLetter_4 : decode cX5_isLetter 4 = .ok (.aload_n 0, 1) := by decide +kernel
theorem dX5_isLetter_5 : decode cX5_isLetter 5 = .ok (.getfield 35, 3) := by decide +kernel
theorem dX5_isLetter_8 : decode cX5_isLetter 8 = .ok (.if_icmp .ge 35, 3) := by decide +kernel
theorem dX5_isLetter_11 : decode cX5_isLetter 11 = .ok (.aload_n 0, 1) := by decide +kernel
theorem dX5_isLetter_12 : decode cX5_isLetter 12 = .ok (.getfield 22, 3) := by decide +kernel
theorem dX5_isLetter_15 : decode cX5_isLetter 15 = .ok (.aload_n 0, 1) := by decide +kernel
theorem dX5_isLetter_16 : decode cX5_isLetter 16 = .ok (.getfield 38, 3) := by decide +kernel
theorem dX5_isLetter_19 : decode cX5_isLetter 19 = .ok (.iaload, 1) := by decide +kernel
theorem dX5_isLetter_20 : decode cX5_isLetter 20 = .ok (.bipush 97, 2) := by decide +kernel
theorem dX5_isLetter_22 : decode cX5_isLetter 22 = .ok (.if_icmp .lt 21, 3) := by decide +kernel
theorem dX5_isLetter_25 : decode cX5_isLetter 25 = .ok (.aload_n 0, 1) := by decide +kernel
theorem dX5_isLetter_26 : decode cX5_isLetter 26 = .ok (.getfield 22, 3) := by decide +kernel
theorem dX5_isLetter_29 : decode cX5_isLetter 29 = .ok (.aload_n 0, 1) := by decide +kernel
theorem dX5_isLetter_30 : decode cX5_isLetter 30 = .ok (.getfield 38, 3) := by decide +kernel
theorem dX5_isLetter_33 : decode cX5_isLetter 33 = .ok (.iaload, 1) := by decide +kernel
theorem dX5_isLetter_34 : decode cX5_isLetter 34 = .ok (.bipush 122, 2) := by decide +kernel
theorem dX5_isLetter_36 : decode cX5_isLetter 36 = .ok (.if_icmp .gt 7, 3) := by decide +kernel
theorem dX5_isLetter_39 : decode cX5_isLetter 39 = .ok (.iconst 1, 1) := by decide +kernel
theorem dX5_isLetter_40 : decode cX5_isLetter 40 = .ok (.goto 4, 3) := by decide +kernel
theorem dX5_isLetter_43 : decode cX5_isLetter 43 = .ok (.iconst 0, 1) := by decide +kernel
theorem dX5_isLetter_44 : decode cX5_isLetter 44 = .ok (.ireturn, 1) := by decide +kernel
theorem dX5_isDigit_0 : decode cX5_isDigit 0 = .ok (.aload_n 0, 1) := by decide +kernel
theorem dX5_isDigit_1 : decode cX5_isDigit 1 = .ok (.getfield 38, 3) := by decide +kernel
theorem dX5_isDigit_4 : decode cX5_isDigit 4 = .ok (.aload_n 0, 1) := by decide +kernel
theorem dX5_isDigit_5 : decode cX5_isDigit 5 = .ok (.getfield 35, 3) := by decide +kernel
theorem dX5_isDigit_8 : decode cX5_isDigit 8 = .ok (.if_icmp .ge 35, 3) := by decide +kernel
theorem dX5_isDigit_11 : decode cX5_isDigit 11 = .ok (.aload_n 0, 1) := by decide +kernel
theorem dX5_isDigit_12 : decode cX5_isDigit 12 = .ok (.getfield 22, 3) := by decide +kernel
theorem dX5_isDigit_15 : decode cX5_isDigit 15 = .ok (.aload_n 0, 1) := by decide +kernel
theorem dX5_isDigit_16 : decode cX5_isDigit 16 = .ok (.getfield 38, 3) := by decide +kernel
theorem dX5_isDigit_19 : decode cX5_isDigit 19 = .ok (.iaload, 1) := by decide +kernel
theorem dX5_isDigit_20 : decode cX5_isDigit 20 = .ok (.bipush 48, 2) := by decide +kernel
theorem dX5_isDigit_22 : decode cX5_isDigit 22 = .ok (.if_icmp .lt 21, 3) := by decide +kernel
theorem dX5_isDigit_25 : decode cX5_isDigit 25 = .ok (.aload_n 0, 1) := by decide +kernel
theorem dX5_isDigit_26 : decode cX5_isDigit 26 = .ok (.getfield 22, 3) := by decide +kernel
theorem dX5_isDigit_29 : decode cX5_isDigit 29 = .ok (.aload_n 0, 1) := by decide +kernel
theorem dX5_isDigit_30 : decode cX5_isDigit 30 = .ok (.getfield 38, 3) := by decide +kernel
theorem dX5_isDigit_33 : decode cX5_isDigit 33 = .ok (.iaload, 1) := by decide +kernel
theorem dX5_isDigit_34 : decode cX5_isDigit 34 = .ok (.bipush 57, 2) := by decide +kernel
theorem dX5_isDigit_36 : decode cX5_isDigit 36 = .ok (.if_icmp .gt 7, 3) := by decide +kernel
theorem dX5_isDigit_39 : decode cX5_isDigit 39 = .ok (.iconst 1, 1) := by decide +kernel
theorem dX5_isDigit_40 : decode cX5_isDigit 40 = .ok (.goto 4, 3) := by decide +kernel
theorem dX5_isDigit_43 : decode cX5_isDigit 43 = .ok (.iconst 0, 1) := by decide +kernel
theorem dX5_isDigit_44 : decode cX5_isDigit 44 = .ok (.ireturn, 1) := by decide +kernel
set_option maxRecDepth 100000 in
theorem ggX6_init_X9_init : GoodIn wsX6_init wsX9_init := goodIn_r _ [24, 25, 2, 3, 26, 27, 28, 29, 30, 31, 32, 33, 46, 47, 48, 49, 50, 51, 52, 53] rfl (by decide +kernel)
set_option maxRecDepth 100000 in
theorem gX6_init_X9_init_n11 : GoodIn wsX6_init (wsX9_init) := ggX6_init_X9_init
set_option maxRecDepth 100000 in
theorem ggX6_init_X7_init : GoodIn wsX6_init wsX7_init := goodIn_r _ [35, 36, 2, 3, 26, 37, 38, 39, 58, 59, 60, 61] rfl (by decide +kernel)
set_option maxRecDepth 100000 in
theorem gX6_init_X7_init_n20 : GoodIn wsX6_init (wsX7_init) := ggX6_init_X7_init
set_option maxRecDepth 100000 in
theorem ggX6_init_X2_init : GoodIn wsX6_init wsX2_init := goodIn_r _ [41, 42, 2, 3, 26, 43, 44, 45, 62, 63, 64, 65, 66, 67] rfl (by decide +kernel)
set_option maxRecDepth 100000 in
theorem gX6_init_X2_init_n27 : GoodIn wsX6_init (wsX2_init) := ggX6_init_X2_init
theorem dX6_init_0 : decode cX6_init 0 = .ok (.aload_n 0, 1) := by decide +kernel
theorem dX6_init_1 : decode cX6_init 1 = .ok (.invokespecial 3, 3) := by decide +kernel
theorem dX6_init_4 : decode cX6_init 4 = .ok (.aload_n 0, 1) := by decide +kernel
theorem dX6_init_5 : decode cX6_init 5 = .ok (.new 9, 3) := by decide +kernel
theorem dX6_init_8 : decode cX6_init 8 = .ok (.dup, 1) := by decide +kernel
theorem dX6_init_9 : decode cX6_init 9 = .ok (.invokespecial 11, 3) := by decide +kernel
theorem dX6_init_12 : decode cX6_init 12 = .ok (.putfield 12, 3) := by decide +kernel
theorem dX6_init_15 : decode cX6_init 15 = .ok (.aload_n 0, 1) := by decide +kernel
theorem dX6_init_16 : decode cX6_init 16 = .ok (.new 18, 3) := by decide +kernel
theorem dX6_init_19 : decode cX6_init 19 = .ok (.dup, 1) := by decide +kernel
theorem dX6_init_20 : decode cX6_init 20 = .ok (.invokespecial 20, 3) := by decide +kernel
theorem dX6_init_23 : decode cX6_init 23 = .ok (.putfield 21, 3) := by decide +kernel
theorem dX6_init_26 : decode cX6_init 26 = .ok (.aload_n 0, 1) := by decide +kernel
theorem dX6_init_27 : decode cX6_init 27 = .ok (.new 25, 3) := by decide +kernel
theorem dX6_init_30 : decode cX6_init 30 = .ok (.dup, 1) := by decide +kernel
theorem dX6_init_31 : decode cX6_init 31 = .ok (.invokespecial 27, 3) := by decide +kernel
theorem dX6_init_34 : decode cX6_init 34 = .ok (.putfield 28, 3) := by decide +kernel
theorem dX6_init_37 : decode cX6_init 37 = .ok (.aload_n 0, 1) := by decide +kernel
theorem dX6_init_38 : decode cX6_init 38 = .ok (.getstatic 32, 3) := by decide +kernel
theorem dX6_init_41 : decode cX6_init 41 = .ok (.invokevirtual 36, 3) := by decide +kernel
theorem dX6_init_44 : decode cX6_init 44 = .ok (.checkcast 37, 3) := by decide +kernel
theorem dX6_init_47 : decode cX6_init 47 = .ok (.putfield 41, 3) := by decide +kernel
theorem dX6_init_50 : decode cX6_init 50 = .ok (.return_, 1) := by decide +kernel
set_option maxRecDepth 100000 in
theorem ggX6_clear_X9_clear : GoodIn wsX6_clear wsX9_clear := goodIn_r _ [15, 16, 17, 32, 33, 34, 35, 36, 37, 38, 39] rfl (by decide +kernel)
set_option maxRecDepth 100000 in
theorem gX6_clear_X9_clear : GoodIn wsX6_clear (wsV RX6 44 RX9 yX9_clear wsX9_clear) := goodIn_app (goodIn_of _ (by decide +kernel)) ggX6_clear_X9_clear
theorem dX6_clear_0 : decode cX6_clear 0 = .ok (.aload_n 0, 1) := by decide +kernel
theorem dX6_clear_1 : decode cX6_clear 1 = .ok (.getfield 12, 3) := by decide +kernel
theorem dX6_clear_4 : decode cX6_clear 4 = .ok (.invokevirtual 44, 3) := by decide +kernel
theorem dX6_clear_7 : decode cX6_clear 7 = .ok (.aload_n 0, 1) := by decide +kernel
theorem dX6_clear_8 : decode cX6_clear 8 = .ok (.getfield 21, 3) := by decide +kernel
theorem dX6_clear_11 : decode cX6_clear 11 = .ok (.iconst 0, 1) := by decide +kernel
theorem dX6_clear_12 : decode cX6_clear 12 = .ok (.putfield 47, 3) := by decide +kernel
theorem dX6_clear_15 : decode cX6_clear 15 = .ok (.aload_n 0, 1) := by decide +kernel
theorem dX6_clear_16 : decode cX6_clear 16 = .ok (.getfield 28, 3) := by decide +kernel
theorem dX6_clear_19 : decode cX6_clear 19 = .ok (.iconst 0, 1) := by decide +kernel
theorem dX6_clear_20 : decode cX6_clear 20 = .ok (.putfield 51, 3) := by decide +kernel
theorem dX6_clear_23 : decode cX6_clear 23 = .ok (.getstatic 32, 3) := by decide +kernel
theorem dX6_clear_26 : decode cX6_clear 26 = .ok (.iconst 0, 1) := by decide +kernel
theorem dX6_clear_27 : decode cX6_clear 27 = .ok (.aload_n 0, 1) := by decide +kernel
theorem dX6_clear_28 : decode cX6_clear 28 = .ok (.getfield 41, 3) := by decide +kernel
theorem dX6_clear_31 : decode cX6_clear 31 = .ok (.iconst 0, 1) := by decide +kernel
theorem dX6_clear_32 : decode cX6_clear 32 = .ok (.bipush 6, 2) := by decide +kernel
theorem dX6_clear_34 : decode cX6_clear 34 = .ok (.invokestatic 55, 3) := by decide +kernel
theorem dX6_clear_37 : decode cX6_clear 37 = .ok (.return_, 1) := by decide +kernel
set_option maxRecDepth 100000 in
theorem ggX6_copyFrom_X9_copyFrom : GoodIn wsX6_copyFrom wsX9_copyFrom := goodIn_r _ [13, 14, 15, 16, 17, 6, 7, 8, 18, 19, 20, 21, 22, 49, 50, 51, 52, 53, 54, 55, 56] rfl (by decide +kernel)
set_option maxRecDepth 100000 in
theorem gX6_copyFrom_X9_copyFrom : GoodIn wsX6_copyFrom (wsV RX6 61 RX9 yX9_copyFrom wsX9_copyFrom) := goodIn_app (goodIn_of _ (by decide +kernel)) ggX6_copyFrom_X9_copyFrom
set_option maxRecDepth 100000 in
theorem ggX6_copyFrom_X7_copyFrom : GoodIn wsX6_copyFrom wsX7_copyFrom := goodIn_r _ [27, 28, 29, 30, 6, 7, 8, 31, 32, 57, 58, 59, 60] rfl (by decide +kernel)
set_option maxRecDepth 100000 in
theorem gX6_copyFrom_X7_copyFrom : GoodIn wsX6_copyFrom (wsV RX6 65 RX7 yX7_copyFrom wsX7_copyFrom) := goodIn_app (goodIn_of _ (by decide +kernel)) ggX6_copyFrom_X7_copyFrom
set_option maxRecDepth 100000 in
theorem ggX6_copyFrom_X2_copyFrom : GoodIn wsX6_copyFrom wsX2_copyFrom := goodIn_r _ [37, 38, 39, 40, 41, 42, 6, 7, 8, 43, 44, 61, 62, 63, 64, 65, 66] rfl (by decide +kernel)
set_option maxRecDepth 100000 in
theorem gX6_copyFrom_X2_copyFrom : GoodIn wsX6_copyFrom (wsV RX6 68 RX2 yX2_copyFrom wsX2_copyFrom) := goodIn_app (goodIn_of _ (by decide +kernel)) ggX6_copyFrom_X2_copyFrom
theorem dX6_copyFrom_0 : decode cX6_copyFrom 0 = .ok (.aload_n 0, 1) := by decide +kernel
theorem dX6_copyFrom_1 : decode cX6_copyFrom 1 = .ok (.getfield 12, 3) := by decide +kernel
theorem dX6_copyFrom_4 : decode cX6_copyFrom 4 = .ok (.aload_n 1, 1) := by decide +kernel
theorem dX6_copyFrom_5 : decode cX6_copyFrom 5 = .ok (.getfield 12, 3) := by decide +kernel
theorem dX6_copyFrom_8 : decode cX6_copyFrom 8 = .ok (.invokevirtual 61, 3) := by decide +kernel
theorem dX6_copyFrom_11 : decode cX6_copyFrom 11 = .ok (.aload_n 0, 1) := by decide +kernel
theorem dX6_copyFrom_12 : decode cX6_copyFrom 12 = .ok (.getfield 21, 3) := by decide +kernel
theorem dX6_copyFrom_15 : decode cX6_copyFrom 15 = .ok (.aload_n 1, 1) := by decide +kernel
theorem dX6_copyFrom_16 : decode cX6_copyFrom 16 = .ok (.getfield 21, 3) := by decide +kernel
theorem dX6_copyFrom_19 : decode cX6_copyFrom 19 = .ok (.invokevirtual 65, 3) := by decide +kernel
theorem dX6_copyFrom_22 : decode cX6_copyFrom 22 = .ok (.aload_n 0, 1) := by decide +kernel
theorem dX6_copyFrom_23 : decode cX6_copyFrom 23 = .ok (.getfield 28, 3) := by decide +kernel
theorem dX6_copyFrom_26 : decode cX6_copyFrom 26 = .ok (.aload_n 1, 1) := by decide +kernel
theorem dX6_copyFrom_27 : decode cX6_copyFrom 27 = .ok (.getfield 28, 3) := by decide +kernel
theorem dX6_copyFrom_30 : decode cX6_copyFrom 30 = .ok (.invokevirtual 68, 3) := by decide +kernel
theorem dX6_copyFrom_33 : decode cX6_copyFrom 33 = .ok (.aload_n 1, 1) := by decide +kernel
theorem dX6_copyFrom_34 : decode cX6_copyFrom 34 = .ok (.getfield 41, 3) := by decide +kernel
theorem dX6_copyFrom_37 : decode cX6_copyFrom 37 = .ok (.iconst 0, 1) := by decide +kernel
theorem dX6_copyFrom_38 : decode cX6_copyFrom 38 = .ok (.aload_n 0, 1) := by decide +kernel
theorem dX6_copyFrom_39 : decode cX6_copyFrom 39 = .ok (.getfield 41, 3) := by decide +kernel
theorem dX6_copyFrom_42 : decode cX6_copyFrom 42 = .ok (.iconst 0, 1) := by decide +kernel
theorem dX6_copyFrom_43 : decode cX6_copyFrom 43 = .ok (.bipush 6, 2) := by decide +kernel
theorem dX6_copyFrom_45 : decode cX6_copyFrom 45 = .ok (.invokestatic 55, 3) := by decide +kernel
theorem dX6_copyFrom_48 : decode cX6_copyFrom 48 = .ok (.return_, 1) := by decide +kernel
theorem dX7_init_0 : decode cX7_init 0 = .ok (.aload_n 0, 1) := by decide +kernel
theorem dX7_init_1 : decode cX7_init 1 = .ok (.invokespecial 3, 3) := by decide +kernel
theorem dX7_init_4 : decode cX7_init 4 = .ok (.aload_n 0, 1) := by decide +kernel
theorem dX7_init_5 : decode cX7_init 5 = .ok (.iconst 5, 1) := by decide +kernel
theorem dX7_init_6 : decode cX7_init 6 = .ok (.newarray .int, 2) := by decide +kernel
theorem dX7_init_8 : decode cX7_init 8 = .ok (.putfield 9, 3) := by decide +kernel
theorem dX7_init_11 : decode cX7_init 11 = .ok (.aload_n 0, 1) := by decide +kernel
theorem dX7_init_12 : decode cX7_init 12 = .ok (.iconst 5, 1) := by decide +kernel
theorem dX7_init_13 : decode cX7_init 13 = .ok (.newarray .int, 2) := by decide +kernel
theorem dX7_init_15 : decode cX7_init 15 = .ok (.putfield 15, 3) := by decide +kernel
theorem dX7_init_18 : decode cX7_init 18 = .ok (.aload_n 0, 1) := by decide +kernel
theorem dX7_init_19 : decode cX7_init 19 = .ok (.iconst 5, 1) := by decide +kernel
theorem dX7_init_20 : decode cX7_init 20 = .ok (.newarray .int, 2) := by decide +kernel
theorem dX7_init_22 : decode cX7_init 22 = .ok (.putfield 18, 3) := by decide +kernel
theorem dX7_init_25 : decode cX7_init 25 = .ok (.return_, 1) := by decide +kernel
theorem dX7_copyFrom_0 : decode cX7_copyFrom 0 = .ok (.aload_n 0, 1) := by decide +kernel
theorem dX7_copyFrom_1 : decode cX7_copyFrom 1 = .ok (.aload_n 1, 1) := by decide +kernel
theorem dX7_copyFrom_2 : decode cX7_copyFrom 2 = .ok (.getfield 21, 3) := by decide +kernel
theorem dX7_copyFrom_5 : decode cX7_copyFrom 5 = .ok (.putfield 21, 3) := by decide +kernel
theorem dX7_copyFrom_8 : decode cX7_copyFrom 8 = .ok (.aload_n 1, 1) := by decide +kernel
theorem dX7_copyFrom_9 : decode cX7_copyFrom 9 = .ok (.getfield 9, 3) := by decide +kernel
theorem dX7_copyFrom_12 : decode cX7_copyFrom 12 = .ok (.iconst 0, 1) := by decide +kernel
theorem dX7_copyFrom_13 : decode cX7_copyFrom 13 = .ok (.aload_n 0, 1) := by decide +kernel
theorem dX7_copyFrom_14 : decode cX7_copyFrom 14 = .ok (.getfield 9, 3) := by decide +kernel
theorem dX7_copyFrom_17 : decode cX7_copyFrom 17 = .ok (.iconst 0, 1) := by decide +kernel
theorem dX7_copyFrom_18 : decode cX7_copyFrom 18 = .ok (.iconst 5, 1) := by decide +kernel
theorem dX7_copyFrom_19 : decode cX7_copyFrom 19 = .ok (.invokestatic 25, 3) := by decide +kernel
theorem dX7_copyFrom_22 : decode cX7_copyFrom 22 = .ok (.aload_n 1, 1) := by decide +kernel
theorem dX7_copyFrom_23 : decode cX7_copyFrom 23 = .ok (.getfield 15, 3) := by decide +kernel
theorem dX7_copyFrom_26 : decode cX7_copyFrom 26 = .ok (.iconst 0, 1) := by decide +kernel
theorem dX7_copyFrom_27 : decode cX7_copyFrom 27 = .ok (.aload_n 0, 1) := by decide +kernel
theorem dX7_copyFrom_28 : decode cX7_copyFrom 28 = .ok (.getfield 15, 3) := by decide +kernel
theorem dX7_copyFrom_31 : decode cX7_copyFrom 31 = .ok (.iconst 0, 1) := by decide +kernel
theorem dX7_copyFrom_32 : decode cX7_copyFrom 32 = .ok (.iconst 5, 1) := by decide +kernel
theorem dX7_copyFrom_33 : decode cX7_copyFrom 33 = .ok (.invokestatic 25, 3) := by decide +kernel
theorem dX7_copyFrom_36 : decode cX7_copyFrom 36 = .ok (.aload_n 1, 1) := by decide +kernel
theorem dX7_copyFrom_37 : decode cX7_copyFrom 37 = .ok (.getfield 18, 3) := by decide +kernel
theorem dX7_copyFrom_40 : decode cX7_copyFrom 40 = .ok (.iconst 0, 1) := by decide +kernel
theorem dX7_copyFrom_41 : decode cX7_copyFrom 41 = .ok (.aload_n 0, 1) := by decide +kernel
theorem dX7_copyFrom_42 : decode cX7_copyFrom 42 = .ok (.getfield 18, 3) := by decide +kernel
theorem dX7_copyFrom_45 : decode cX7_copyFrom 45 = .ok (.iconst 0, 1) := by decide +kernel
theorem dX7_copyFrom_46 : decode cX7_copyFrom 46 = .ok (.iconst 5, 1) := by decide +kernel
theorem dX7_copyFrom_47 : decode cX7_copyFrom 47 = .ok (.invokestatic 25, 3) := by decide +kernel
theorem dX7_copyFrom_50 : decode cX7_copyFrom 50 = .ok (.return_, 1) := by decide +kernel
set_option maxRecDepth 100000 in
theorem ggX7_insert_X7_take : GoodIn wsX7_insert wsX7_take := goodIn_r _ [9, 2, 3, 4, 10, 11, 12, 13] rfl (by decide +kernel)
set_option maxRecDepth 100000 in
theorem gX7_insert_X7_take : GoodIn wsX7_insert (wsV RX7 31 RX7 yX7_take wsX7_take) := goodIn_app (goodIn_of _ (by decide +kernel)) ggX7_insert_X7_take
theorem dX7_insert_0 : decode cX7_insert 0 = .ok (.aload_n 0, 1) := by decide +kernel
theorem dX7_insert_1 : decode cX7_insert 1 = .ok (.getfield 21, 3) := by decide +kernel
theorem dX7_insert_4 : decode cX7_insert 4 = .ok (.iconst 5, 1) := by decide +kernel
theorem dX7_insert_5 : decode cX7_insert 5 = .ok (.if_icmp .lt 5, 3) := by decide +kernel
theorem dX7_insert_8 : decode cX7_insert 8 = .ok (.iconst (-1), 1) := by decide +kernel
theorem dX7_insert_9 : decode cX7_insert 9 = .ok (.ireturn, 1) := by decide +kernel
theorem dX7_insert_10 : decode cX7_insert 10 = .ok (.aload_n 0, 1) := by decide +kernel
theorem dX7_insert_11 : decode cX7_insert 11 = .ok (.getfield 21, 3) := by decide +kernel
theorem dX7_insert_14 : decode cX7_insert 14 = .ok (.istore 4, 2) := by decide +kernel
theorem dX7_insert_16 : decode cX7_insert 16 = .ok (.iload 4, 2) := by decide +kernel
theorem dX7_insert_18 : decode cX7_insert 18 = .ok (.ifCond .le 32, 3) := by decide +kernel
theorem dX7_insert_21 : decode cX7_insert 21 = .ok (.aload_n 0, 1) := by decide +kernel
theorem dX7_insert_22 : decode cX7_insert 22 = .ok (.getfield 9, 3) := by decide +kernel
theorem dX7_insert_25 : decode cX7_insert 25 = .ok (.iload 4, 2) := by decide +kernel
theorem dX7_insert_27 : decode cX7_insert 27 = .ok (.iconst 1, 1) := by decide +kernel
theorem dX7_insert_28 : decode cX7_insert 28 = .ok (.isub, 1) := by decide +kernel
theorem dX7_insert_29 : decode cX7_insert 29 = .ok (.iaload, 1) := by decide +kernel
theorem dX7_insert_30 : decode cX7_insert 30 = .ok (.iload_n 1, 1) := by decide +kernel
theorem dX7_insert_31 : decode cX7_insert 31 = .ok (.if_icmp .le 19, 3) := by decide +kernel
theorem dX7_insert_34 : decode cX7_insert 34 = .ok (.aload_n 0, 1) := by decide +kernel
theorem dX7_insert_35 : decode cX7_insert 35 = .ok (.iload 4, 2) := by decide +kernel
theorem dX7_insert_37 : decode cX7_insert 37 = .ok (.iload 4, 2) := by decide +kernel
theorem dX7_insert_39 : decode cX7_insert 39 = .ok (.iconst 1, 1) := by decide +kernel
theorem dX7_insert_40 : decode cX7_insert 40 = .ok (.isub, 1) := by decide +kernel
theorem dX7_insert_41 : decode cX7_insert 41 = .ok (.invokevirtual 31, 3) := by decide +kernel
theorem dX7_insert_44 : decode cX7_insert 44 = .ok (.iinc 4 (-1), 3) := by decide +kernel
theorem dX7_insert_47 : decode cX7_insert 47 = .ok (.goto (-31), 3) := by decide +kernel
theorem dX7_insert_50 : decode cX7_insert 50 = .ok (.aload_n 0, 1) := by decide +kernel
theorem dX7_insert_51 : decode cX7_insert 51 = .ok (.getfield 9, 3) := by decide +kernel
theorem dX7_insert_54 : decode cX7_insert 54 = .ok (.iload 4, 2) := by decide +kernel
theorem dX7_insert_56 : decode cX7_insert 56 = .ok (.iload_n 1, 1) := by decide +kernel
theorem dX7_insert_57 : decode cX7_insert 57 = .ok (.iastore, 1) := by decide +kernel
theorem dX7_insert_58 : decode cX7_insert 58 = .ok (.aload_n 0, 1) := by decide +kernel
theorem dX7_insert_59 : decode cX7_insert 59 = .ok (.getfield 15, 3) := by decide +kernel
theorem dX7_insert_62 : decode cX7_insert 62 = .ok (.iload 4, 2) := by decide +kernel
theorem dX7_insert_64 : decode cX7_insert 64 = .ok (.iload_n 2, 1) := by decide +kernel
theorem dX7_insert_65 : decode cX7_insert 65 = .ok (.iastore, 1) := by decide +kernel
theorem dX7_insert_66 : decode cX7_insert 66 = .ok (.aload_n 0, 1) := by decide +kernel
theorem dX7_insert_67 : decode cX7_insert 67 = .ok (.getfield 18, 3) := by decide +kernel
theorem dX7_insert_70 : decode cX7_insert 70 = .ok (.iload 4, 2) := by decide +kernel
theorem dX7_insert_72 : decode cX7_insert 72 = .ok (.iload_n 3, 1) := by decide +kernel
theorem dX7_insert_73 : decode cX7_insert 73 = .ok (.iastore, 1) := by decide +kernel
theorem dX7_insert_74 : decode cX7_insert 74 = .ok (.aload_n 0, 1) := by decide +kernel
theorem dX7_insert_75 : decode cX7_insert 75 = .ok (.dup, 1) := by decide +kernel
theorem dX7_insert_76 : decode cX7_insert 76 = .ok (.getfield 21, 3) := by decide +kernel
theorem dX7_insert_79 : decode cX7_insert 79 = .ok (.iconst 1, 1) := by decide +kernel
theorem dX7_insert_80 : decode cX7_insert 80 = .ok (.iadd, 1) := by decide +kernel
theorem dX7_insert_81 : decode cX7_insert 81 = .ok (.putfield 21, 3) := by decide +kernel
theorem dX7_insert_84 : decode cX7_insert 84 = .ok (.iload 4, 2) := by decide +kernel
theorem dX7_insert_86 : decode cX7_insert 86 = .ok (.ireturn, 1) := by decide +kernel
set_option maxRecDepth 100000 in
theorem ggX7_drop_X7_take : GoodIn wsX7_drop wsX7_take := goodIn_r _ [6, 7, 8, 9, 10, 11, 12, 13] rfl (by decide +kernel)
set_option maxRecDepth 100000 in
theorem gX7_drop_X7_take : GoodIn wsX7_drop (wsV RX7 31 RX7 yX7_take wsX7_take) := goodIn_app (goodIn_of _ (by decide +kernel)) ggX7_drop_X7_take
theorem dX7_drop_0 : decode cX7_drop 0 = .ok (.iload_n 1, 1) := by decide +kernel
theorem dX7_drop_1 : decode cX7_drop 1 = .ok (.istore_n 2, 1) := by decide +kernel
theorem dX7_drop_2 : decode cX7_drop 2 = .ok (.iload_n 2, 1) := by decide +kernel
theorem dX7_drop_3 : decode cX7_drop 3 = .ok (.aload_n 0, 1) := by decide +kernel
theorem dX7_drop_4 : decode cX7_drop 4 = .ok (.getfield 21, 3) := by decide +kernel
theorem dX7_drop_7 : decode cX7_drop 7 = .ok (.iconst 1, 1) := by decide +kernel
theorem dX7_drop_8 : decode cX7_drop 8 = .ok (.isub, 1) := by decide +kernel
theorem dX7_drop_9 : decode cX7_drop 9 = .ok (.if_icmp .ge 17, 3) := by decide +kernel
theorem dX7_drop_12 : decode cX7_drop 12 = .ok (.aload_n 0, 1) := by decide +kernel
theorem dX7_drop_13 : decode cX7_drop 13 = .ok (.iload_n 2, 1) := by decide +kernel
theorem dX7_drop_14 : decode cX7_drop 14 = .ok (.iload_n 2, 1) := by decide +kernel
theorem dX7_drop_15 : decode cX7_drop 15 = .ok (.iconst 1, 1) := by decide +kernel
theorem dX7_drop_16 : decode cX7_drop 16 = .ok (.iadd, 1) := by decide +kernel
theorem dX7_drop_17 : decode cX7_drop 17 = .ok (.invokevirtual 31, 3) := by decide +kernel
theorem dX7_drop_20 : decode cX7_drop 20 = .ok (.iinc 2 1, 3) := by decide +kernel
theorem dX7_drop_23 : decode cX7_drop 23 = .ok (.goto (-21), 3) := by decide +kernel
theorem dX7_drop_26 : decode cX7_drop 26 = .ok (.aload_n 0, 1) := by decide +kernel
theorem dX7_drop_27 : decode cX7_drop 27 = .ok (.dup, 1) := by decide +kernel
theorem dX7_drop_28 : decode cX7_drop 28 = .ok (.getfield 21, 3) := by decide +kernel
theorem dX7_drop_31 : decode cX7_drop 31 = .ok (.iconst 1, 1) := by decide +kernel
theorem dX7_drop_32 : decode cX7_drop 32 = .ok (.isub, 1) := by decide +kernel
theorem dX7_drop_33 : decode cX7_drop 33 = .ok (.putfield 21, 3) := by decide +kernel
theorem dX7_drop_36 : decode cX7_drop 36 = .ok (.return_, 1) := by decide +kernel
theorem dX7_take_0 : decode cX7_take 0 = .ok (.aload_n 0, 1) := by decide +kernel
theorem dX7_take_1 : decode cX7_take 1 = .ok (.getfield 9, 3) := by decide +kernel
theorem dX7_take_4 : decode cX7_take 4 = .ok (.iload_n 1, 1) := by decide +kernel
theorem dX7_take_5 : decode cX7_take 5 = .ok (.aload_n 0, 1) := by decide +kernel
theorem dX7_take_6 : decode cX7_take 6 = .ok (.getfield 9, 3) := by decide +kernel
theorem dX7_take_9 : decode cX7_take 9 = .ok (.iload_n 2, 1) := by decide +kernel
theorem dX7_take_10 : decode cX7_take 10 = .ok (.iaload, 1) := by decide +kernel
theorem dX7_take_11 : decode cX7_take 11 = .ok (.iastore, 1) := by decide +kernel
theorem dX7_take_12 : decode cX7_take 12 = .ok (.aload_n 0, 1) := by decide +kernel
theorem dX7_take_13 : decode cX7_take 13 = .ok (.getfield 15, 3) := by decide +kernel
theorem dX7_take_16 : decode cX7_take 16 = .ok (.iload_n 1, 1) := by decide +kernel
theorem dX7_take_17 : decode cX7_take 17 = .ok (.aload_n 0, 1) := by decide +kernel
theorem dX7_take_18 : decode cX7_take 18 = .ok (.getfield 15, 3) := by decide +kernel
theorem dX7_take_21 : decode cX7_take 21 = .ok (.iload_n 2, 1) := by decide +kernel
theorem dX7_take_22 : decode cX7_take 22 = .ok (.iaload, 1) := by decide +kernel
theorem dX7_take_23 : decode cX7_take 23 = .ok (.iastore, 1) := by decide +kernel
theorem dX7_take_24 : decode cX7_take 24 = .ok (.aload_n 0, 1) := by decide +kernel
theorem dX7_take_25 : decode cX7_take 25 = .ok (.getfield 18, 3) := by decide +kernel
theorem dX7_take_28 : decode cX7_take 28 = .ok (.iload_n 1, 1) := by decide +kernel
theorem dX7_take_29 : decode cX7_take 29 = .ok (.aload_n 0, 1) := by decide +kernel
theorem dX7_take_30 : decode cX7_take 30 = .ok (.getfield 18, 3) := by decide +kernel
theorem dX7_take_33 : decode cX7_take 33 = .ok (.iload_n 2, 1) := by decide +kernel
theorem dX7_take_34 : decode cX7_take 34 = .ok (.iaload, 1) := by decide +kernel
theorem dX7_take_35 : decode cX7_take 35 = .ok (.iastore, 1) := by decide +kernel
theorem dX7_take_36 : decode cX7_take 36 = .ok (.return_, 1) := by decide +kernel
theorem dX8_init_0 : decode cX8_init 0 = .ok (.aload_n 0, 1) := by decide +kernel
theorem dX8_init_1 : decode cX8_init 1 = .ok (.invokespecial 3, 3) := by decide +kernel
theorem dX8_init_4 : decode cX8_init 4 = .ok (.aload_n 0, 1) := by decide +kernel
theorem dX8_init_5 : decode cX8_init 5 = .ok (.bipush 24, 2) := by decide +kernel
theorem dX8_init_7 : decode cX8_init 7 = .ok (.newarray .int, 2) := by decide +kernel
theorem dX8_init_9 : decode cX8_init 9 = .ok (.putfield 9, 3) := by decide +kernel
theorem dX8_init_12 : decode cX8_init 12 = .ok (.aload_n 0, 1) := by decide +kernel
theorem dX8_init_13 : decode cX8_init 13 = .ok (.sipush 768, 3) := by decide +kernel
theorem dX8_init_16 : decode cX8_init 16 = .ok (.newarray .int, 2) := by decide +kernel
theorem dX8_init_18 : decode cX8_init 18 = .ok (.putfield 15, 3) := by decide +kernel
theorem dX8_init_21 : decode cX8_init 21 = .ok (.return_, 1) := by decide +kernel
set_option maxRecDepth 100000 in
theorem ggX8_update_J7_fill_53178 : GoodIn wsX8_update wsJ7_fill_53178 := goodIn_r _ [8] rfl (by decide +kernel)
set_option maxRecDepth 100000 in
theorem gX8_update_J7_fill_53178 : GoodIn wsX8_update (va_wsS RX8 18 yJ7_fill_53178 wsJ7_fill_53178) := goodIn_app (goodIn_of _ (by decide +kernel)) ggX8_update_J7_fill_53178
set_option maxRecDepth 100000 in
theorem ggX8_update_X0_lastOf : GoodIn wsX8_update wsX0_lastOf := goodIn_r _ [13, 14, 15, 16, 35, 36, 37, 38, 39, 40, 41, 42, 43, 44, 45, 46, 47, 48, 49] rfl (by decide +kernel)
set_option maxRecDepth 100000 in
theorem gX8_update_X0_lastOf : GoodIn wsX8_update (wsV RX8 33 RX0 yX0_lastOf wsX0_lastOf) := goodIn_app (goodIn_of _ (by decide +kernel)) ggX8_update_X0_lastOf
set_option maxRecDepth 100000 in
theorem ggX8_update_X9_tally : GoodIn wsX8_update wsX9_tally := goodIn_r _ [21, 22, 23, 24, 20, 25, 26, 27, 28, 29, 30, 31, 32, 50, 51, 52, 53, 54, 55, 56, 57] rfl (by decide +kernel)
set_option maxRecDepth 100000 in
theorem gX8_update_X9_tally : GoodIn wsX8_update (wsV RX8 37 RX9 yX9_tally wsX9_tally) := goodIn_app (goodIn_of _ (by decide +kernel)) ggX8_update_X9_tally
theorem dX8_update_0 : decode cX8_update 0 = .ok (.aload_n 0, 1) := by decide +kernel
theorem dX8_update_1 : decode cX8_update 1 = .ok (.getfield 15, 3) := by decide +kernel
theorem dX8_update_4 : decode cX8_update 4 = .ok (.iconst 0, 1) := by decide +kernel
theorem dX8_update_5 : decode cX8_update 5 = .ok (.invokestatic 18, 3) := by decide +kernel
theorem dX8_update_8 : decode cX8_update 8 = .ok (.aload_n 0, 1) := by decide +kernel
theorem dX8_update_9 : decode cX8_update 9 = .ok (.getfield 9, 3) := by decide +kernel
theorem dX8_update_12 : decode cX8_update 12 = .ok (.iconst 0, 1) := by decide +kernel
theorem dX8_update_13 : decode cX8_update 13 = .ok (.invokestatic 18, 3) := by decide +kernel
theorem dX8_update_16 : decode cX8_update 16 = .ok (.iconst 0, 1) := by decide +kernel
theorem dX8_update_17 : decode cX8_update 17 = .ok (.istore_n 3, 1) := by decide +kernel
theorem dX8_update_18 : decode cX8_update 18 = .ok (.iload_n 3, 1) := by decide +kernel
theorem dX8_update_19 : decode cX8_update 19 = .ok (.aload_n 2, 1) := by decide +kernel
theorem dX8_update_20 : decode cX8_update 20 = .ok (.getfield 24, 3) := by decide +kernel
theorem dX8_update_23 : decode cX8_update 23 = .ok (.if_icmp .ge 80, 3) := by decide +kernel
theorem dX8_update_26 : decode cX8_update 26 = .ok (.iload_n 3, 1) := by decide +kernel
theorem dX8_update_27 : decode cX8_update 27 = .ok (.bipush 24, 2) := by decide +kernel
theorem dX8_update_29 : decode cX8_update 29 = .ok (.imul, 1) := by decide +kernel
theorem dX8_update_30 : decode cX8_update 30 = .ok (.istore 4, 2) := by decide +kernel
theorem dX8_update_32 : decode cX8_update 32 = .ok (.aload_n 1, 1) := by decide +kernel
theorem dX8_update_33 : decode cX8_update 33 = .ok (.aload_n 2, 1) := by decide +kernel
theorem dX8_update_34 : decode cX8_update 34 = .ok (.getfield 30, 3) := by decide +kernel
theorem dX8_update_37 : decode cX8_update 37 = .ok (.iload_n 3, 1) := by decide +kernel
theorem dX8_update_38 : decode cX8_update 38 = .ok (.iaload, 1) := by decide +kernel
theorem dX8_update_39 : decode cX8_update 39 = .ok (.aload_n 2, 1) := by decide +kernel
theorem dX8_update_40 : decode cX8_update 40 = .ok (.iload_n 3, 1) := by decide +kernel
theorem dX8_update_41 : decode cX8_update 41 = .ok (.invokevirtual 33, 3) := by decide +kernel
theorem dX8_update_44 : decode cX8_update 44 = .ok (.aload_n 0, 1) := by decide +kernel
theorem dX8_update_45 : decode cX8_update 45 = .ok (.getfield 15, 3) := by decide +kernel
theorem dX8_update_48 : decode cX8_update 48 = .ok (.iload 4, 2) := by decide +kernel
theorem dX8_update_50 : decode cX8_update 50 = .ok (.invokevirtual 37, 3) := by decide +kernel
theorem dX8_update_53 : decode cX8_update 53 = .ok (.iconst 0, 1) := by decide +kernel
theorem dX8_update_54 : decode cX8_update 54 = .ok (.istore 5, 2) := by decide +kernel
theorem dX8_update_56 : decode cX8_update 56 = .ok (.iload 5, 2) := by decide +kernel
theorem dX8_update_58 : decode cX8_update 58 = .ok (.bipush 24, 2) := by decide +kernel
theorem dX8_update_60 : decode cX8_update 60 = .ok (.if_icmp .ge 37, 3) := by decide +kernel
theorem dX8_update_63 : decode cX8_update 63 = .ok (.aload_n 0, 1) := by decide +kernel
theorem dX8_update_64 : decode cX8_update 64 = .ok (.getfield 9, 3) := by decide +kernel
theorem dX8_update_67 : decode cX8_update 67 = .ok (.iload 5, 2) := by decide +kernel
theorem dX8_update_69 : decode cX8_update 69 = .ok (.dup2, 1) := by decide +kernel
theorem dX8_update_70 : decode cX8_update 70 = .ok (.iaload, 1) := by decide +kernel
theorem dX8_update_71 : decode cX8_update 71 = .ok (.aload_n 0, 1) := by decide +kernel
theorem dX8_update_72 : decode cX8_update 72 = .ok (.getfield 15, 3) := by decide +kernel
theorem dX8_update_75 : decode cX8_update 75 = .ok (.iload 4, 2) := by decide +kernel
theorem dX8_update_77 : decode cX8_update 77 = .ok (.iload 5, 2) := by decide +kernel
theorem dX8_update_79 : decode cX8_update 79 = .ok (.iadd, 1) := by decide +kernel
theorem dX8_update_80 : decode cX8_update 80 = .ok (.iaload, 1) := by decide +kernel
theorem dX8_update_81 : decode cX8_update 81 = .ok (.ifCond .le 7, 3) := by decide +kernel
theorem dX8_update_84 : decode cX8_update 84 = .ok (.iconst 1, 1) := by decide +kernel
theorem dX8_update_85 : decode cX8_update 85 = .ok (.goto 4, 3) := by decide +kernel
theorem dX8_update_88 : decode cX8_update 88 = .ok (.iconst 0, 1) := by decide +kernel
theorem dX8_update_89 : decode cX8_update 89 = .ok (.iadd, 1) := by decide +kernel
theorem dX8_update_90 : decode cX8_update 90 = .ok (.iastore, 1) := by decide +kernel
theorem dX8_update_91 : decode cX8_update 91 = .ok (.iinc 5 1, 3) := by decide +kernel
theorem dX8_update_94 : decode cX8_update 94 = .ok (.goto (-38), 3) := by decide +kernel
theorem dX8_update_97 : decode cX8_update 97 = .ok (.iinc 3 1, 3) := by decide +kernel
theorem dX8_update_100 : decode cX8_update 100 = .ok (.goto (-82), 3) := by decide +kernel
theorem dX8_update_103 : decode cX8_update 103 = .ok (.return_, 1) := by decide +kernel
set_option maxRecDepth 100000 in
theorem ggX8_differentWords_X8_stands : GoodIn wsX8_differentWords wsX8_stands := goodIn_r _ [5, 6, 7, 8] rfl (by decide +kernel)
set_option maxRecDepth 100000 in
theorem gX8_differentWords_X8_stands : GoodIn wsX8_differentWords (wsV RX8 43 RX8 yX8_stands wsX8_stands) := goodIn_app (goodIn_of _ (by decide +kernel)) ggX8_differentWords_X8_stands
theorem dX8_differentWords_0 : decode cX8_differentWords 0 = .ok (.iconst 0, 1) := by decide +kernel
theorem dX8_differentWords_1 : decode cX8_differentWords 1 = .ok (.istore_n 2, 1) := by decide +kernel
theorem dX8_differentWords_2 : decode cX8_differentWords 2 = .ok (.iconst 0, 1) := by decide +kernel
theorem dX8_differentWords_3 : decode cX8_differentWords 3 = .ok (.istore_n 3, 1) := by decide +kernel
theorem dX8_differentWords_4 : decode cX8_differentWords 4 = .ok (.iload_n 3, 1) := by decide +kernel
theorem dX8_differentWords_5 : decode cX8_differentWords 5 = .ok (.bipush 24, 2) := by decide +kernel
theorem dX8_differentWords_7 : decode cX8_differentWords 7 = .ok (.if_icmp .ge 21, 3) := by decide +kernel
theorem dX8_differentWords_10 : decode cX8_differentWords 10 = .ok (.aload_n 0, 1) := by decide +kernel
theorem dX8_differentWords_11 : decode cX8_differentWords 11 = .ok (.iload_n 1, 1) := by decide +kernel
theorem dX8_differentWords_12 : decode cX8_differentWords 12 = .ok (.iload_n 3, 1) := by decide +kernel
theorem dX8_differentWords_13 : decode cX8_differentWords 13 = .ok (.invokevirtual 43, 3) := by decide +kernel
theorem dX8_differentWords_16 : decode cX8_differentWords 16 = .ok (.ifCond .eq 6, 3) := by decide +kernel
theorem dX8_differentWords_19 : decode cX8_differentWords 19 = .ok (.iinc 2 1, 3) := by decide +kernel
theorem dX8_differentWords_22 : decode cX8_differentWords 22 = .ok (.iinc 3 1, 3) := by decide +kernel
theorem dX8_differentWords_25 : decode cX8_differentWords 25 = .ok (.goto (-21), 3) := by decide +kernel
theorem dX8_differentWords_28 : decode cX8_differentWords 28 = .ok (.iload_n 2, 1) := by decide +kernel
theorem dX8_differentWords_29 : decode cX8_differentWords 29 = .ok (.ireturn, 1) := by decide +kernel
theorem dX8_stands_0 : decode cX8_stands 0 = .ok (.aload_n 0, 1) := by decide +kernel
theorem dX8_stands_1 : decode cX8_stands 1 = .ok (.getfield 15, 3) := by decide +kernel
theorem dX8_stands_4 : decode cX8_stands 4 = .ok (.iload_n 1, 1) := by decide +kernel
theorem dX8_stands_5 : decode cX8_stands 5 = .ok (.bipush 24, 2) := by decide +kernel
theorem dX8_stands_7 : decode cX8_stands 7 = .ok (.imul, 1) := by decide +kernel
theorem dX8_stands_8 : decode cX8_stands 8 = .ok (.iload_n 2, 1) := by decide +kernel
theorem dX8_stands_9 : decode cX8_stands 9 = .ok (.iadd, 1) := by decide +kernel
theorem dX8_stands_10 : decode cX8_stands 10 = .ok (.iaload, 1) := by decide +kernel
theorem dX8_stands_11 : decode cX8_stands 11 = .ok (.ifCond .le 7, 3) := by decide +kernel
theorem dX8_stands_14 : decode cX8_stands 14 = .ok (.iconst 1, 1) := by decide +kernel
theorem dX8_stands_15 : decode cX8_stands 15 = .ok (.goto 4, 3) := by decide +kernel
theorem dX8_stands_18 : decode cX8_stands 18 = .ok (.iconst 0, 1) := by decide +kernel
theorem dX8_stands_19 : decode cX8_stands 19 = .ok (.ireturn, 1) := by decide +kernel
theorem dX8_markOf_0 : decode cX8_markOf 0 = .ok (.aload_n 0, 1) := by decide +kernel
theorem dX8_markOf_1 : decode cX8_markOf 1 = .ok (.getfield 9, 3) := by decide +kernel
theorem dX8_markOf_4 : decode cX8_markOf 4 = .ok (.iload_n 2, 1) := by decide +kernel
theorem dX8_markOf_5 : decode cX8_markOf 5 = .ok (.iaload, 1) := by decide +kernel
theorem dX8_markOf_6 : decode cX8_markOf 6 = .ok (.istore_n 3, 1) := by decide +kernel
theorem dX8_markOf_7 : decode cX8_markOf 7 = .ok (.iload_n 3, 1) := by decide +kernel
theorem dX8_markOf_8 : decode cX8_markOf 8 = .ok (.ifCond .ne 7, 3) := by decide +kernel
theorem dX8_markOf_11 : decode cX8_markOf 11 = .ok (.iconst 0, 1) := by decide +kernel
theorem dX8_markOf_12 : decode cX8_markOf 12 = .ok (.goto 20, 3) := by decide +kernel
theorem dX8_markOf_15 : decode cX8_markOf 15 = .ok (.sipush 1000, 3) := by decide +kernel
theorem dX8_markOf_18 : decode cX8_markOf 18 = .ok (.aload_n 0, 1) := by decide +kernel
theorem dX8_markOf_19 : decode cX8_markOf 19 = .ok (.getfield 15, 3) := by decide +kernel
theorem dX8_markOf_22 : decode cX8_markOf 22 = .ok (.iload_n 1, 1) := by decide +kernel
theorem dX8_markOf_23 : decode cX8_markOf 23 = .ok (.bipush 24, 2) := by decide +kernel
theorem dX8_markOf_25 : decode cX8_markOf 25 = .ok (.imul, 1) := by decide +kernel
theorem dX8_markOf_26 : decode cX8_markOf 26 = .ok (.iload_n 2, 1) := by decide +kernel
theorem dX8_markOf_27 : decode cX8_markOf 27 = .ok (.iadd, 1) := by decide +kernel
theorem dX8_markOf_28 : decode cX8_markOf 28 = .ok (.iaload, 1) := by decide +kernel
theorem dX8_markOf_29 : decode cX8_markOf 29 = .ok (.imul, 1) := by decide +kernel
theorem dX8_markOf_30 : decode cX8_markOf 30 = .ok (.iload_n 3, 1) := by decide +kernel
theorem dX8_markOf_31 : decode cX8_markOf 31 = .ok (.idiv, 1) := by decide +kernel
theorem dX8_markOf_32 : decode cX8_markOf 32 = .ok (.ireturn, 1) := by decide +kernel
set_option maxRecDepth 100000 in
theorem ggX8_mostTypical_X9_sizeOf : GoodIn wsX8_mostTypical wsX9_sizeOf := goodIn_r _ [5, 6, 7, 20, 21, 22, 23, 24, 25, 26, 27] rfl (by decide +kernel)
set_option maxRecDepth 100000 in
theorem gX8_mostTypical_X9_sizeOf : GoodIn wsX8_mostTypical (wsV RX8 47 RX9 yX9_sizeOf wsX9_sizeOf) := goodIn_app (goodIn_of _ (by decide +kernel)) ggX8_mostTypical_X9_sizeOf
set_option maxRecDepth 100000 in
theorem ggX8_mostTypical_X9_wordAt : GoodIn wsX8_mostTypical wsX9_wordAt := goodIn_r _ [11, 12, 7, 20, 21, 22, 23, 24, 25, 26, 27] rfl (by decide +kernel)
set_option maxRecDepth 100000 in
theorem gX8_mostTypical_X9_wordAt : GoodIn wsX8_mostTypical (wsV RX8 50 RX9 yX9_wordAt wsX9_wordAt) := goodIn_app (goodIn_of _ (by decide +kernel)) ggX8_mostTypical_X9_wordAt
set_option maxRecDepth 100000 in
theorem ggX8_mostTypical_X8_markOf : GoodIn wsX8_mostTypical wsX8_markOf := goodIn_r _ [17, 18, 19, 28, 29] rfl (by decide +kernel)
set_option maxRecDepth 100000 in
theorem gX8_mostTypical_X8_markOf : GoodIn wsX8_mostTypical (wsV RX8 54 RX8 yX8_markOf wsX8_markOf) := goodIn_app (goodIn_of _ (by decide +kernel)) ggX8_mostTypical_X8_markOf
theorem dX8_mostTypical_0 : decode cX8_mostTypical 0 = .ok (.iload_n 3, 1) := by decide +kernel
theorem dX8_mostTypical_1 : decode cX8_mostTypical 1 = .ok (.istore 5, 2) := by decide +kernel
theorem dX8_mostTypical_3 : decode cX8_mostTypical 3 = .ok (.iconst (-1), 1) := by decide +kernel
theorem dX8_mostTypical_4 : decode cX8_mostTypical 4 = .ok (.istore 6, 2) := by decide +kernel
theorem dX8_mostTypical_6 : decode cX8_mostTypical 6 = .ok (.iload_n 3, 1) := by decide +kernel
theorem dX8_mostTypical_7 : decode cX8_mostTypical 7 = .ok (.istore 7, 2) := by decide +kernel
theorem dX8_mostTypical_9 : decode cX8_mostTypical 9 = .ok (.iload 7, 2) := by decide +kernel
theorem dX8_mostTypical_11 : decode cX8_mostTypical 11 = .ok (.iload 4, 2) := by decide +kernel
theorem dX8_mostTypical_13 : decode cX8_mostTypical 13 = .ok (.if_icmp .gt 69, 3) := by decide +kernel
theorem dX8_mostTypical_16 : decode cX8_mostTypical 16 = .ok (.iconst 0, 1) := by decide +kernel
theorem dX8_mostTypical_17 : decode cX8_mostTypical 17 = .ok (.istore 8, 2) := by decide +kernel
theorem dX8_mostTypical_19 : decode cX8_mostTypical 19 = .ok (.aload_n 1, 1) := by decide +kernel
theorem dX8_mostTypical_20 : decode cX8_mostTypical 20 = .ok (.iload 7, 2) := by decide +kernel
theorem dX8_mostTypical_22 : decode cX8_mostTypical 22 = .ok (.invokevirtual 47, 3) := by decide +kernel
theorem dX8_mostTypical_25 : decode cX8_mostTypical 25 = .ok (.istore 9, 2) := by decide +kernel
theorem dX8_mostTypical_27 : decode cX8_mostTypical 27 = .ok (.iconst 0, 1) := by decide +kernel
theorem dX8_mostTypical_28 : decode cX8_mostTypical 28 = .ok (.istore 10, 2) := by decide +kernel
theorem dX8_mostTypical_30 : decode cX8_mostTypical 30 = .ok (.iload 10, 2) := by decide +kernel
theorem dX8_mostTypical_32 : decode cX8_mostTypical 32 = .ok (.iload 9, 2) := by decide +kernel
theorem dX8_mostTypical_34 : decode cX8_mostTypical 34 = .ok (.if_icmp .ge 27, 3) := by decide +kernel
theorem dX8_mostTypical_37 : decode cX8_mostTypical 37 = .ok (.iload 8, 2) := by decide +kernel
theorem dX8_mostTypical_39 : decode cX8_mostTypical 39 = .ok (.aload_n 0, 1) := by decide +kernel
theorem dX8_mostTypical_40 : decode cX8_mostTypical 40 = .ok (.iload_n 2, 1) := by decide +kernel
theorem dX8_mostTypical_41 : decode cX8_mostTypical 41 = .ok (.aload_n 1, 1) := by decide +kernel
theorem dX8_mostTypical_42 : decode cX8_mostTypical 42 = .ok (.iload 7, 2) := by decide +kernel
theorem dX8_mostTypical_44 : decode cX8_mostTypical 44 = .ok (.iload 10, 2) := by decide +kernel
theorem dX8_mostTypical_46 : decode cX8_mostTypical 46 = .ok (.invokevirtual 50, 3) := by decide +kernel
theorem dX8_mostTypical_49 : decode cX8_mostTypical 49 = .ok (.invokevirtual 54, 3) := by decide +kernel
theorem dX8_mostTypical_52 : decode cX8_mostTypical 52 = .ok (.iadd, 1) := by decide +kernel
theorem dX8_mostTypical_53 : decode cX8_mostTypical 53 = .ok (.istore 8, 2) := by decide +kernel
theorem dX8_mostTypical_55 : decode cX8_mostTypical 55 = .ok (.iinc 10 1, 3) := by decide +kernel
theorem dX8_mostTypical_58 : decode cX8_mostTypical 58 = .ok (.goto (-28), 3) := by decide +kernel
theorem dX8_mostTypical_61 : decode cX8_mostTypical 61 = .ok (.iload 8, 2) := by decide +kernel
theorem dX8_mostTypical_63 : decode cX8_mostTypical 63 = .ok (.iload 6, 2) := by decide +kernel
theorem dX8_mostTypical_65 : decode cX8_mostTypical 65 = .ok (.if_icmp .le 11, 3) := by decide +kernel
theorem dX8_mostTypical_68 : decode cX8_mostTypical 68 = .ok (.iload 7, 2) := by decide +kernel
theorem dX8_mostTypical_70 : decode cX8_mostTypical 70 = .ok (.istore 5, 2) := by decide +kernel
theorem dX8_mostTypical_72 : decode cX8_mostTypical 72 = .ok (.iload 8, 2) := by decide +kernel
theorem dX8_mostTypical_74 : decode cX8_mostTypical 74 = .ok (.istore 6, 2) := by decide +kernel
theorem dX8_mostTypical_76 : decode cX8_mostTypical 76 = .ok (.iinc 7 1, 3) := by decide +kernel
theorem dX8_mostTypical_79 : decode cX8_mostTypical 79 = .ok (.goto (-70), 3) := by decide +kernel
theorem dX8_mostTypical_82 : decode cX8_mostTypical 82 = .ok (.iload 5, 2) := by decide +kernel
theorem dX8_mostTypical_84 : decode cX8_mostTypical 84 = .ok (.ireturn, 1) := by decide +kernel
set_option maxRecDepth 100000 in
theorem ggX8_chapterLikeness_X10_percentAlike : GoodIn wsX8_chapterLikeness wsX10_percentAlike := goodIn_r _ [4, 5, 6, 7, 8, 9, 10, 11] rfl (by decide +kernel)
set_option maxRecDepth 100000 in
theorem gX8_chapterLikeness_X10_percentAlike_n57 : GoodIn wsX8_chapterLikeness (wsX10_percentAlike) := ggX8_chapterLikeness_X10_percentAlike
theorem dX8_chapterLikeness_0 : decode cX8_chapterLikeness 0 = .ok (.aload_n 0, 1) := by decide +kernel
theorem dX8_chapterLikeness_1 : decode cX8_chapterLikeness 1 = .ok (.getfield 15, 3) := by decide +kernel
theorem dX8_chapterLikeness_4 : decode cX8_chapterLikeness 4 = .ok (.iload_n 1, 1) := by decide +kernel
theorem dX8_chapterLikeness_5 : decode cX8_chapterLikeness 5 = .ok (.bipush 24, 2) := by decide +kernel
theorem dX8_chapterLikeness_7 : decode cX8_chapterLikeness 7 = .ok (.imul, 1) := by decide +kernel
theorem dX8_chapterLikeness_8 : decode cX8_chapterLikeness 8 = .ok (.aload_n 0, 1) := by decide +kernel
theorem dX8_chapterLikeness_9 : decode cX8_chapterLikeness 9 = .ok (.getfield 15, 3) := by decide +kernel
theorem dX8_chapterLikeness_12 : decode cX8_chapterLikeness 12 = .ok (.iload_n 2, 1) := by decide +kernel
theorem dX8_chapterLikeness_13 : decode cX8_chapterLikeness 13 = .ok (.bipush 24, 2) := by decide +kernel
theorem dX8_chapterLikeness_15 : decode cX8_chapterLikeness 15 = .ok (.imul, 1) := by decide +kernel
theorem dX8_chapterLikeness_16 : decode cX8_chapterLikeness 16 = .ok (.invokestatic 57, 3) := by decide +kernel
theorem dX8_chapterLikeness_19 : decode cX8_chapterLikeness 19 = .ok (.ireturn, 1) := by decide +kernel
set_option maxRecDepth 100000 in
theorem ggX8_titleWord_X8_nextInTitle : GoodIn wsX8_titleWord wsX8_nextInTitle := goodIn_r _ [5, 6, 7, 8, 4, 9, 10, 11, 12, 13, 14, 15, 16, 17, 18, 19, 20, 21] rfl (by decide +kernel)
set_option maxRecDepth 100000 in
theorem gX8_titleWord_X8_nextInTitle : GoodIn wsX8_titleWord (wsV RX8 61 RX8 yX8_nextInTitle wsX8_nextInTitle) := goodIn_app (goodIn_of _ (by decide +kernel)) ggX8_titleWord_X8_nextInTitle
theorem dX8_titleWord_0 : decode cX8_titleWord 0 = .ok (.aload_n 0, 1) := by decide +kernel
theorem dX8_titleWord_1 : decode cX8_titleWord 1 = .ok (.iload_n 1, 1) := by decide +kernel
theorem dX8_titleWord_2 : decode cX8_titleWord 2 = .ok (.iconst (-1), 1) := by decide +kernel
theorem dX8_titleWord_3 : decode cX8_titleWord 3 = .ok (.invokevirtual 61, 3) := by decide +kernel
theorem dX8_titleWord_6 : decode cX8_titleWord 6 = .ok (.istore_n 3, 1) := by decide +kernel
theorem dX8_titleWord_7 : decode cX8_titleWord 7 = .ok (.iconst 0, 1) := by decide +kernel
theorem dX8_titleWord_8 : decode cX8_titleWord 8 = .ok (.istore 4, 2) := by decide +kernel
theorem dX8_titleWord_10 : decode cX8_titleWord 10 = .ok (.iload 4, 2) := by decide +kernel
theorem dX8_titleWord_12 : decode cX8_titleWord 12 = .ok (.iload_n 2, 1) := by decide +kernel
theorem dX8_titleWord_13 : decode cX8_titleWord 13 = .ok (.if_icmp .ge 21, 3) := by decide +kernel
theorem dX8_titleWord_16 : decode cX8_titleWord 16 = .ok (.iload_n 3, 1) := by decide +kernel
theorem dX8_titleWord_17 : decode cX8_titleWord 17 = .ok (.iconst (-1), 1) := by decide +kernel
theorem dX8_titleWord_18 : decode cX8_titleWord 18 = .ok (.if_icmp .eq 16, 3) := by decide +kernel
theorem dX8_titleWord_21 : decode cX8_titleWord 21 = .ok (.aload_n 0, 1) := by decide +kernel
theorem dX8_titleWord_22 : decode cX8_titleWord 22 = .ok (.iload_n 1, 1) := by decide +kernel
theorem dX8_titleWord_23 : decode cX8_titleWord 23 = .ok (.iload_n 3, 1) := by decide +kernel
theorem dX8_titleWord_24 : decode cX8_titleWord 24 = .ok (.invokevirtual 61, 3) := by decide +kernel
theorem dX8_titleWord_27 : decode cX8_titleWord 27 = .ok (.istore_n 3, 1) := by decide +kernel
theorem dX8_titleWord_28 : decode cX8_titleWord 28 = .ok (.iinc 4 1, 3) := by decide +kernel
theorem dX8_titleWord_31 : decode cX8_titleWord 31 = .ok (.goto (-21), 3) := by decide +kernel
theorem dX8_titleWord_34 : decode cX8_titleWord 34 = .ok (.iload_n 3, 1) := by decide +kernel
theorem dX8_titleWord_35 : decode cX8_titleWord 35 = .ok (.ireturn, 1) := by decide +kernel
set_option maxRecDepth 100000 in
theorem ggX8_nextInTitle_X8_stands : GoodIn wsX8_nextInTitle wsX8_stands := goodIn_r _ [5, 6, 16, 17] rfl (by decide +kernel)
set_option maxRecDepth 100000 in
theorem gX8_nextInTitle_X8_stands : GoodIn wsX8_nextInTitle (wsV RX8 43 RX8 yX8_stands wsX8_stands) := goodIn_app (goodIn_of _ (by decide +kernel)) ggX8_nextInTitle_X8_stands
set_option maxRecDepth 100000 in
theorem ggX8_nextInTitle_X8_precedes : GoodIn wsX8_nextInTitle wsX8_precedes := goodIn_r _ [10, 11, 12, 13, 4, 14, 15, 6, 16, 17] rfl (by decide +kernel)
set_option maxRecDepth 100000 in
theorem gX8_nextInTitle_X8_precedes : GoodIn wsX8_nextInTitle (wsV RX8 64 RX8 yX8_precedes wsX8_precedes) := goodIn_app (goodIn_of _ (by decide +kernel)) ggX8_nextInTitle_X8_precedes
theorem dX8_nextInTitle_0 : decode cX8_nextInTitle 0 = .ok (.iconst (-1), 1) := by decide +kernel
theorem dX8_nextInTitle_1 : decode cX8_nextInTitle 1 = .ok (.istore_n 3, 1) := by decide +kernel
theorem dX8_nextInTitle_2 : decode cX8_nextInTitle 2 = .ok (.iconst 0, 1) := by decide +kernel
theorem dX8_nextInTitle_3 : decode cX8_nextInTitle 3 = .ok (.istore 4, 2) := by decide +kernel
theorem dX8_nextInTitle_5 : decode cX8_nextInTitle 5 = .ok (.iload 4, 2) := by decide +kernel
theorem dX8_nextInTitle_7 : decode cX8_nextInTitle 7 = .ok (.bipush 24, 2) := by decide +kernel
theorem dX8_nextInTitle_9 : decode cX8_nextInTitle 9 = .ok (.if_icmp .ge 66, 3) := by decide +kernel
theorem dX8_nextInTitle_12 : decode cX8_nextInTitle 12 = .ok (.aload_n 0, 1) := by decide +kernel
theorem dX8_nextInTitle_13 : decode cX8_nextInTitle 13 = .ok (.iload_n 1, 1) := by decide +kernel
theorem dX8_nextInTitle_14 : decode cX8_nextInTitle 14 = .ok (.iload 4, 2) := by decide +kernel
theorem dX8_nextInTitle_16 : decode cX8_nextInTitle 16 = .ok (.invokevirtual 43, 3) := by decide +kernel
theorem dX8_nextInTitle_19 : decode cX8_nextInTitle 19 = .ok (.ifCond .eq 23, 3) := by decide +kernel
theorem dX8_nextInTitle_22 : decode cX8_nextInTitle 22 = .ok (.iload_n 2, 1) := by decide +kernel
theorem dX8_nextInTitle_23 : decode cX8_nextInTitle 23 = .ok (.iconst (-1), 1) := by decide +kernel
theorem dX8_nextInTitle_24 : decode cX8_nextInTitle 24 = .ok (.if_icmp .eq 14, 3) := by decide +kernel
theorem dX8_nextInTitle_27 : decode cX8_nextInTitle 27 = .ok (.aload_n 0, 1) := by decide +kernel
theorem dX8_nextInTitle_28 : decode cX8_nextInTitle 28 = .ok (.iload_n 1, 1) := by decide +kernel
theorem dX8_nextInTitle_29 : decode cX8_nextInTitle 29 = .ok (.iload_n 2, 1) := by decide +kernel
theorem dX8_nextInTitle_30 : decode cX8_nextInTitle 30 = .ok (.iload 4, 2) := by decide +kernel
theorem dX8_nextInTitle_32 : decode cX8_nextInTitle 32 = .ok (.invokevirtual 64, 3) := by decide +kernel
theorem dX8_nextInTitle_35 : decode cX8_nextInTitle 35 = .ok (.ifCond .eq 7, 3) := by decide +kernel
theorem dX8_nextInTitle_38 : decode cX8_nextInTitle 38 = .ok (.iconst 1, 1) := by decide +kernel
theorem dX8_nextInTitle_39 : decode cX8_nextInTitle 39 = .ok (.goto 4, 3) := by decide +kernel
theorem dX8_nextInTitle_42 : decode cX8_nextInTitle 42 = .ok (.iconst 0, 1) := by decide +kernel
theorem dX8_nextInTitle_43 : decode cX8_nextInTitle 43 = .ok (.istore 5, 2) := by decide +kernel
theorem dX8_nextInTitle_45 : decode cX8_nextInTitle 45 = .ok (.iload 5, 2) := by decide +kernel
theorem dX8_nextInTitle_47 : decode cX8_nextInTitle 47 = .ok (.ifCond .eq 22, 3) := by decide +kernel
theorem dX8_nextInTitle_50 : decode cX8_nextInTitle 50 = .ok (.iload_n 3, 1) := by decide +kernel
theorem dX8_nextInTitle_51 : decode cX8_nextInTitle 51 = .ok (.iconst (-1), 1) := by decide +kernel
theorem dX8_nextInTitle_52 : decode cX8_nextInTitle 52 = .ok (.if_icmp .eq 14, 3) := by decide +kernel
theorem dX8_nextInTitle_55 : decode cX8_nextInTitle 55 = .ok (.aload_n 0, 1) := by decide +kernel
theorem dX8_nextInTitle_56 : decode cX8_nextInTitle 56 = .ok (.iload_n 1, 1) := by decide +kernel
theorem dX8_nextInTitle_57 : decode cX8_nextInTitle 57 = .ok (.iload 4, 2) := by decide +kernel
theorem dX8_nextInTitle_59 : decode cX8_nextInTitle 59 = .ok (.iload_n 3, 1) := by decide +kernel
theorem dX8_nextInTitle_60 : decode cX8_nextInTitle 60 = .ok (.invokevirtual 64, 3) := by decide +kernel
theorem dX8_nextInTitle_63 : decode cX8_nextInTitle 63 = .ok (.ifCond .eq 6, 3) := by decide +kernel
theorem dX8_nextInTitle_66 : decode cX8_nextInTitle 66 = .ok (.iload 4, 2) := by decide +kernel
theorem dX8_nextInTitle_68 : decode cX8_nextInTitle 68 = .ok (.istore_n 3, 1) := by decide +kernel
theorem dX8_nextInTitle_69 : decode cX8_nextInTitle 69 = .ok (.iinc 4 1, 3) := by decide +kernel
theorem dX8_nextInTitle_72 : decode cX8_nextInTitle 72 = .ok (.goto (-67), 3) := by decide +kernel
theorem dX8_nextInTitle_75 : decode cX8_nextInTitle 75 = .ok (.iload_n 3, 1) := by decide +kernel
theorem dX8_nextInTitle_76 : decode cX8_nextInTitle 76 = .ok (.ireturn, 1) := by decide +kernel
set_option maxRecDepth 100000 in
theorem ggX8_precedes_X8_markOf : GoodIn wsX8_precedes wsX8_markOf := goodIn_r _ [5, 6, 7, 8, 9] rfl (by decide +kernel)
set_option maxRecDepth 100000 in
theorem gX8_precedes_X8_markOf : GoodIn wsX8_precedes (wsV RX8 54 RX8 yX8_markOf wsX8_markOf) := goodIn_app (goodIn_of _ (by decide +kernel)) ggX8_precedes_X8_markOf
theorem dX8_precedes_0 : decode cX8_precedes 0 = .ok (.aload_n 0, 1) := by decide +kernel
theorem dX8_precedes_1 : decode cX8_precedes 1 = .ok (.iload_n 1, 1) := by decide +kernel
theorem dX8_precedes_2 : decode cX8_precedes 2 = .ok (.iload_n 2, 1) := by decide +kernel
theorem dX8_precedes_3 : decode cX8_precedes 3 = .ok (.invokevirtual 54, 3) := by decide +kernel
theorem dX8_precedes_6 : decode cX8_precedes 6 = .ok (.istore 4, 2) := by decide +kernel
theorem dX8_precedes_8 : decode cX8_precedes 8 = .ok (.aload_n 0, 1) := by decide +kernel
theorem dX8_precedes_9 : decode cX8_precedes 9 = .ok (.iload_n 1, 1) := by decide +kernel
theorem dX8_precedes_10 : decode cX8_precedes 10 = .ok (.iload_n 3, 1) := by decide +kernel
theorem dX8_precedes_11 : decode cX8_precedes 11 = .ok (.invokevirtual 54, 3) := by decide +kernel
theorem dX8_precedes_14 : decode cX8_precedes 14 = .ok (.istore 5, 2) := by decide +kernel
theorem dX8_precedes_16 : decode cX8_precedes 16 = .ok (.iload 4, 2) := by decide +kernel
theorem dX8_precedes_18 : decode cX8_precedes 18 = .ok (.iload 5, 2) := by decide +kernel
theorem dX8_precedes_20 : decode cX8_precedes 20 = .ok (.if_icmp .gt 15, 3) := by decide +kernel
theorem dX8_precedes_23 : decode cX8_precedes 23 = .ok (.iload 4, 2) := by decide +kernel
theorem dX8_precedes_25 : decode cX8_precedes 25 = .ok (.iload 5, 2) := by decide +kernel
theorem dX8_precedes_27 : decode cX8_precedes 27 = .ok (.if_icmp .ne 12, 3) := by decide +kernel
theorem dX8_precedes_30 : decode cX8_precedes 30 = .ok (.iload_n 2, 1) := by decide +kernel
theorem dX8_precedes_31 : decode cX8_precedes 31 = .ok (.iload_n 3, 1) := by decide +kernel
theorem dX8_precedes_32 : decode cX8_precedes 32 = .ok (.if_icmp .ge 7, 3) := by decide +kernel
theorem dX8_precedes_35 : decode cX8_precedes 35 = .ok (.iconst 1, 1) := by decide +kernel
theorem dX8_precedes_36 : decode cX8_precedes 36 = .ok (.goto 4, 3) := by decide +kernel
theorem dX8_precedes_39 : decode cX8_precedes 39 = .ok (.iconst 0, 1) := by decide +kernel
theorem dX8_precedes_40 : decode cX8_precedes 40 = .ok (.ireturn, 1) := by decide +kernel
theorem dX9_init_0 : decode cX9_init 0 = .ok (.aload_n 0, 1) := by decide +kernel
theorem dX9_init_1 : decode cX9_init 1 = .ok (.invokespecial 3, 3) := by decide +kernel
theorem dX9_init_4 : decode cX9_init 4 = .ok (.aload_n 0, 1) := by decide +kernel
theorem dX9_init_5 : decode cX9_init 5 = .ok (.bipush 32, 2) := by decide +kernel
theorem dX9_init_7 : decode cX9_init 7 = .ok (.newarray .int, 2) := by decide +kernel
theorem dX9_init_9 : decode cX9_init 9 = .ok (.putfield 9, 3) := by decide +kernel
theorem dX9_init_12 : decode cX9_init 12 = .ok (.aload_n 0, 1) := by decide +kernel
theorem dX9_init_13 : decode cX9_init 13 = .ok (.bipush 32, 2) := by decide +kernel
theorem dX9_init_15 : decode cX9_init 15 = .ok (.newarray .int, 2) := by decide +kernel
theorem dX9_init_17 : decode cX9_init 17 = .ok (.putfield 15, 3) := by decide +kernel
theorem dX9_init_20 : decode cX9_init 20 = .ok (.aload_n 0, 1) := by decide +kernel
theorem dX9_init_21 : decode cX9_init 21 = .ok (.bipush 32, 2) := by decide +kernel
theorem dX9_init_23 : decode cX9_init 23 = .ok (.newarray .int, 2) := by decide +kernel
theorem dX9_init_25 : decode cX9_init 25 = .ok (.putfield 18, 3) := by decide +kernel
theorem dX9_init_28 : decode cX9_init 28 = .ok (.aload_n 0, 1) := by decide +kernel
theorem dX9_init_29 : decode cX9_init 29 = .ok (.bipush 32, 2) := by decide +kernel
theorem dX9_init_31 : decode cX9_init 31 = .ok (.newarray .int, 2) := by decide +kernel
theorem dX9_init_33 : decode cX9_init 33 = .ok (.putfield 21, 3) := by decide +kernel
theorem dX9_init_36 : decode cX9_init 36 = .ok (.aload_n 0, 1) := by decide +kernel
theorem dX9_init_37 : decode cX9_init 37 = .ok (.sipush 256, 3) := by decide +kernel
theorem dX9_init_40 : decode cX9_init 40 = .ok (.newarray .int, 2) := by decide +kernel
theorem dX9_init_42 : decode cX9_init 42 = .ok (.putfield 24, 3) := by decide +kernel
theorem dX9_init_45 : decode cX9_init 45 = .ok (.aload_n 0, 1) := by decide +kernel
theorem dX9_init_46 : decode cX9_init 46 = .ok (.bipush 24, 2) := by decide +kernel
theorem dX9_init_48 : decode cX9_init 48 = .ok (.newarray .long, 2) := by decide +kernel
theorem dX9_init_50 : decode cX9_init 50 = .ok (.putfield 27, 3) := by decide +kernel
theorem dX9_init_53 : decode cX9_init 53 = .ok (.return_, 1) := by decide +kernel
theorem dX9_clear_0 : decode cX9_clear 0 = .ok (.aload_n 0, 1) := by decide +kernel
theorem dX9_clear_1 : decode cX9_clear 1 = .ok (.iconst 0, 1) := by decide +kernel
theorem dX9_clear_2 : decode cX9_clear 2 = .ok (.putfield 31, 3) := by decide +kernel
theorem dX9_clear_5 : decode cX9_clear 5 = .ok (.aload_n 0, 1) := by decide +kernel
theorem dX9_clear_6 : decode cX9_clear 6 = .ok (.iconst 0, 1) := by decide +kernel
theorem dX9_clear_7 : decode cX9_clear 7 = .ok (.putfield 35, 3) := by decide +kernel
theorem dX9_clear_10 : decode cX9_clear 10 = .ok (.return_, 1) := by decide +kernel
theorem dX9_copyFrom_0 : decode cX9_copyFrom 0 = .ok (.aload_n 0, 1) := by decide +kernel
theorem dX9_copyFrom_1 : decode cX9_copyFrom 1 = .ok (.aload_n 1, 1) := by decide +kernel
theorem dX9_copyFrom_2 : decode cX9_copyFrom 2 = .ok (.getfield 31, 3) := by decide +kernel
theorem dX9_copyFrom_5 : decode cX9_copyFrom 5 = .ok (.putfield 31, 3) := by decide +kernel
theorem dX9_copyFrom_8 : decode cX9_copyFrom 8 = .ok (.aload_n 0, 1) := by decide +kernel
theorem dX9_copyFrom_9 : decode cX9_copyFrom 9 = .ok (.aload_n 1, 1) := by decide +kernel
theorem dX9_copyFrom_10 : decode cX9_copyFrom 10 = .ok (.getfield 35, 3) := by decide +kernel
theorem dX9_copyFrom_13 : decode cX9_copyFrom 13 = .ok (.putfield 35, 3) := by decide +kernel
theorem dX9_copyFrom_16 : decode cX9_copyFrom 16 = .ok (.aload_n 1, 1) := by decide +kernel
theorem dX9_copyFrom_17 : decode cX9_copyFrom 17 = .ok (.getfield 9, 3) := by decide +kernel
theorem dX9_copyFrom_20 : decode cX9_copyFrom 20 = .ok (.iconst 0, 1) := by decide +kernel
theorem dX9_copyFrom_21 : decode cX9_copyFrom 21 = .ok (.aload_n 0, 1) := by decide +kernel
theorem dX9_copyFrom_22 : decode cX9_copyFrom 22 = .ok (.getfield 9, 3) := by decide +kernel
theorem dX9_copyFrom_25 : decode cX9_copyFrom 25 = .ok (.iconst 0, 1) := by decide +kernel
theorem dX9_copyFrom_26 : decode cX9_copyFrom 26 = .ok (.bipush 32, 2) := by decide +kernel
theorem dX9_copyFrom_28 : decode cX9_copyFrom 28 = .ok (.invokestatic 38, 3) := by decide +kernel
theorem dX9_copyFrom_31 : decode cX9_copyFrom 31 = .ok (.aload_n 1, 1) := by decide +kernel
theorem dX9_copyFrom_32 : decode cX9_copyFrom 32 = .ok (.getfield 15, 3) := by decide +kernel
theorem dX9_copyFrom_35 : decode cX9_copyFrom 35 = .ok (.iconst 0, 1) := by decide +kernel
theorem dX9_copyFrom_36 : decode cX9_copyFrom 36 = .ok (.aload_n 0, 1) := by decide +kernel
theorem dX9_copyFrom_37 : decode cX9_copyFrom 37 = .ok (.getfield 15, 3) := by decide +kernel
theorem dX9_copyFrom_40 : decode cX9_copyFrom 40 = .ok (.iconst 0, 1) := by decide +kernel
theorem dX9_copyFrom_41 : decode cX9_copyFrom 41 = .ok (.bipush 32, 2) := by decide +kernel
theorem dX9_copyFrom_43 : decode cX9_copyFrom 43 = .ok (.invokestatic 38, 3) := by decide +kernel
theorem dX9_copyFrom_46 : decode cX9_copyFrom 46 = .ok (.aload_n 1, 1) := by decide +kernel
theorem dX9_copyFrom_47 : decode cX9_copyFrom 47 = .ok (.getfield 18, 3) := by decide +kernel
theorem dX9_copyFrom_50 : decode cX9_copyFrom 50 = .ok (.iconst 0, 1) := by decide +kernel
theorem dX9_copyFrom_51 : decode cX9_copyFrom 51 = .ok (.aload_n 0, 1) := by decide +kernel
theorem dX9_copyFrom_52 : decode cX9_copyFrom 52 = .ok (.getfield 18, 3) := by decide +kernel
theorem dX9_copyFrom_55 : decode cX9_copyFrom 55 = .ok (.iconst 0, 1) := by decide +kernel
theorem dX9_copyFrom_56 : decode cX9_copyFrom 56 = .ok (.bipush 32, 2) := by decide +kernel
theorem dX9_copyFrom_58 : decode cX9_copyFrom 58 = .ok (.invokestatic 38, 3) := by decide +kernel
theorem dX9_copyFrom_61 : decode cX9_copyFrom 61 = .ok (.aload_n 1, 1) := by decide +kernel
theorem dX9_copyFrom_62 : decode cX9_copyFrom 62 = .ok (.getfield 21, 3) := by decide +kernel
theorem dX9_copyFrom_65 : decode cX9_copyFrom 65 = .ok (.iconst 0, 1) := by decide +kernel
theorem dX9_copyFrom_66 : decode cX9_copyFrom 66 = .ok (.aload_n 0, 1) := by decide +kernel
theorem dX9_copyFrom_67 : decode cX9_copyFrom 67 = .ok (.getfield 21, 3) := by decide +kernel
theorem dX9_copyFrom_70 : decode cX9_copyFrom 70 = .ok (.iconst 0, 1) := by decide +kernel
theorem dX9_copyFrom_71 : decode cX9_copyFrom 71 = .ok (.bipush 32, 2) := by decide +kernel
theorem dX9_copyFrom_73 : decode cX9_copyFrom 73 = .ok (.invokestatic 38, 3) := by decide +kernel
theorem dX9_copyFrom_76 : decode cX9_copyFrom 76 = .ok (.aload_n 1, 1) := by decide +kernel
theorem dX9_copyFrom_77 : decode cX9_copyFrom 77 = .ok (.getfield 24, 3) := by decide +kernel
theorem dX9_copyFrom_80 : decode cX9_copyFrom 80 = .ok (.iconst 0, 1) := by decide +kernel
theorem dX9_copyFrom_81 : decode cX9_copyFrom 81 = .ok (.aload_n 0, 1) := by decide +kernel
theorem dX9_copyFrom_82 : decode cX9_copyFrom 82 = .ok (.getfield 24, 3) := by decide +kernel
theorem dX9_copyFrom_85 : decode cX9_copyFrom 85 = .ok (.iconst 0, 1) := by decide +kernel
theorem dX9_copyFrom_86 : decode cX9_copyFrom 86 = .ok (.sipush 256, 3) := by decide +kernel
theorem dX9_copyFrom_89 : decode cX9_copyFrom 89 = .ok (.invokestatic 38, 3) := by decide +kernel
theorem dX9_copyFrom_92 : decode cX9_copyFrom 92 = .ok (.aload_n 1, 1) := by decide +kernel
theorem dX9_copyFrom_93 : decode cX9_copyFrom 93 = .ok (.getfield 27, 3) := by decide +kernel
theorem dX9_copyFrom_96 : decode cX9_copyFrom 96 = .ok (.iconst 0, 1) := by decide +kernel
theorem dX9_copyFrom_97 : decode cX9_copyFrom 97 = .ok (.aload_n 0, 1) := by decide +kernel
theorem dX9_copyFrom_98 : decode cX9_copyFrom 98 = .ok (.getfield 27, 3) := by decide +kernel
theorem dX9_copyFrom_101 : decode cX9_copyFrom 101 = .ok (.iconst 0, 1) := by decide +kernel
theorem dX9_copyFrom_102 : decode cX9_copyFrom 102 = .ok (.bipush 24, 2) := by decide +kernel
theorem dX9_copyFrom_104 : decode cX9_copyFrom 104 = .ok (.invokestatic 38, 3) := by decide +kernel
theorem dX9_copyFrom_107 : decode cX9_copyFrom 107 = .ok (.return_, 1) := by decide +kernel
theorem dX9_addSegment_0 : decode cX9_addSegment 0 = .ok (.aload_n 0, 1) := by decide +kernel
theorem dX9_addSegment_1 : decode cX9_addSegment 1 = .ok (.getfield 31, 3) := by decide +kernel
theorem dX9_addSegment_4 : decode cX9_addSegment 4 = .ok (.bipush 32, 2) := by decide +kernel
theorem dX9_addSegment_6 : decode cX9_addSegment 6 = .ok (.if_icmp .lt 5, 3) := by decide +kernel
theorem dX9_addSegment_9 : decode cX9_addSegment 9 = .ok (.iconst 0, 1) := by decide +kernel
theorem dX9_addSegment_10 : decode cX9_addSegment 10 = .ok (.ireturn, 1) := by decide +kernel
theorem dX9_addSegment_11 : decode cX9_addSegment 11 = .ok (.aload_n 0, 1) := by decide +kernel
theorem dX9_addSegment_12 : decode cX9_addSegment 12 = .ok (.getfield 9, 3) := by decide +kernel
theorem dX9_addSegment_15 : decode cX9_addSegment 15 = .ok (.aload_n 0, 1) := by decide +kernel
theorem dX9_addSegment_16 : decode cX9_addSegment 16 = .ok (.getfield 31, 3) := by decide +kernel
theorem dX9_addSegment_19 : decode cX9_addSegment 19 = .ok (.aload_n 0, 1) := by decide +kernel
theorem dX9_addSegment_20 : decode cX9_addSegment 20 = .ok (.getfield 31, 3) := by decide +kernel
theorem dX9_addSegment_23 : decode cX9_addSegment 23 = .ok (.iastore, 1) := by decide +kernel
theorem dX9_addSegment_24 : decode cX9_addSegment 24 = .ok (.aload_n 0, 1) := by decide +kernel
theorem dX9_addSegment_25 : decode cX9_addSegment 25 = .ok (.getfield 15, 3) := by decide +kernel
theorem dX9_addSegment_28 : decode cX9_addSegment 28 = .ok (.aload_n 0, 1) := by decide +kernel
theorem dX9_addSegment_29 : decode cX9_addSegment 29 = .ok (.getfield 31, 3) := by decide +kernel
theorem dX9_addSegment_32 : decode cX9_addSegment 32 = .ok (.iload_n 1, 1) := by decide +kernel
theorem dX9_addSegment_33 : decode cX9_addSegment 33 = .ok (.iastore, 1) := by decide +kernel
theorem dX9_addSegment_34 : decode cX9_addSegment 34 = .ok (.aload_n 0, 1) := by decide +kernel
theorem dX9_addSegment_35 : decode cX9_addSegment 35 = .ok (.getfield 18, 3) := by decide +kernel
theorem dX9_addSegment_38 : decode cX9_addSegment 38 = .ok (.aload_n 0, 1) := by decide +kernel
theorem dX9_addSegment_39 : decode cX9_addSegment 39 = .ok (.getfield 31, 3) := by decide +kernel
theorem dX9_addSegment_42 : decode cX9_addSegment 42 = .ok (.iload_n 2, 1) := by decide +kernel
theorem dX9_addSegment_43 : decode cX9_addSegment 43 = .ok (.iastore, 1) := by decide +kernel
theorem dX9_addSegment_44 : decode cX9_addSegment 44 = .ok (.aload_n 0, 1) := by decide +kernel
theorem dX9_addSegment_45 : decode cX9_addSegment 45 = .ok (.getfield 21, 3) := by decide +kernel
theorem dX9_addSegment_48 : decode cX9_addSegment 48 = .ok (.aload_n 0, 1) := by decide +kernel
theorem dX9_addSegment_49 : decode cX9_addSegment 49 = .ok (.getfield 31, 3) := by decide +kernel
theorem dX9_addSegment_52 : decode cX9_addSegment 52 = .ok (.iconst 0, 1) := by decide +kernel
theorem dX9_addSegment_53 : decode cX9_addSegment 53 = .ok (.iastore, 1) := by decide +kernel
theorem dX9_addSegment_54 : decode cX9_addSegment 54 = .ok (.aload_n 0, 1) := by decide +kernel
theorem dX9_addSegment_55 : decode cX9_addSegment 55 = .ok (.dup, 1) := by decide +kernel
theorem dX9_addSegment_56 : decode cX9_addSegment 56 = .ok (.getfield 31, 3) := by decide +kernel
theorem dX9_addSegment_59 : decode cX9_addSegment 59 = .ok (.iconst 1, 1) := by decide +kernel
theorem dX9_addSegment_60 : decode cX9_addSegment 60 = .ok (.iadd, 1) := by decide +kernel
theorem dX9_addSegment_61 : decode cX9_addSegment 61 = .ok (.putfield 31, 3) := by decide +kernel
theorem dX9_addSegment_64 : decode cX9_addSegment 64 = .ok (.iconst 1, 1) := by decide +kernel
theorem dX9_addSegment_65 : decode cX9_addSegment 65 = .ok (.ireturn, 1) := by decide +kernel
theorem dX9_boundaryCount_0 : decode cX9_boundaryCount 0 = .ok (.aload_n 0, 1) := by decide +kernel
theorem dX9_boundaryCount_1 : decode cX9_boundaryCount 1 = .ok (.getfield 31, 3) := by decide +kernel
theorem dX9_boundaryCount_4 : decode cX9_boundaryCount 4 = .ok (.ifCond .le 12, 3) := by decide +kernel
theorem dX9_boundaryCount_7 : decode cX9_boundaryCount 7 = .ok (.aload_n 0, 1) := by decide +kernel
theorem dX9_boundaryCount_8 : decode cX9_boundaryCount 8 = .ok (.getfield 31, 3) := by decide +kernel
theorem dX9_boundaryCount_11 : decode cX9_boundaryCount 11 = .ok (.iconst 1, 1) := by decide +kernel
theorem dX9_boundaryCount_12 : decode cX9_boundaryCount 12 = .ok (.isub, 1) := by decide +kernel
theorem dX9_boundaryCount_13 : decode cX9_boundaryCount 13 = .ok (.goto 4, 3) := by decide +kernel
theorem dX9_boundaryCount_16 : decode cX9_boundaryCount 16 = .ok (.iconst 0, 1) := by decide +kernel
theorem dX9_boundaryCount_17 : decode cX9_boundaryCount 17 = .ok (.ireturn, 1) := by decide +kernel
theorem dX9_durationOf_0 : decode cX9_durationOf 0 = .ok (.aload_n 0, 1) := by decide +kernel
theorem dX9_durationOf_1 : decode cX9_durationOf 1 = .ok (.getfield 15, 3) := by decide +kernel
theorem dX9_durationOf_4 : decode cX9_durationOf 4 = .ok (.aload_n 0, 1) := by decide +kernel
theorem dX9_durationOf_5 : decode cX9_durationOf 5 = .ok (.getfield 9, 3) := by decide +kernel
theorem dX9_durationOf_8 : decode cX9_durationOf 8 = .ok (.iload_n 1, 1) := by decide +kernel
theorem dX9_durationOf_9 : decode cX9_durationOf 9 = .ok (.iaload, 1) := by decide +kernel
theorem dX9_durationOf_10 : decode cX9_durationOf 10 = .ok (.iaload, 1) := by decide +kernel
theorem dX9_durationOf_11 : decode cX9_durationOf 11 = .ok (.ireturn, 1) := by decide +kernel
theorem dX9_pauseOf_0 : decode cX9_pauseOf 0 = .ok (.aload_n 0, 1) := by decide +kernel
theorem dX9_pauseOf_1 : decode cX9_pauseOf 1 = .ok (.getfield 18, 3) := by decide +kernel
theorem dX9_pauseOf_4 : decode cX9_pauseOf 4 = .ok (.aload_n 0, 1) := by decide +kernel
theorem dX9_pauseOf_5 : decode cX9_pauseOf 5 = .ok (.getfield 9, 3) := by decide +kernel
theorem dX9_pauseOf_8 : decode cX9_pauseOf 8 = .ok (.iload_n 1, 1) := by decide +kernel
theorem dX9_pauseOf_9 : decode cX9_pauseOf 9 = .ok (.iaload, 1) := by decide +kernel
theorem dX9_pauseOf_10 : decode cX9_pauseOf 10 = .ok (.iaload, 1) := by decide +kernel
theorem dX9_pauseOf_11 : decode cX9_pauseOf 11 = .ok (.ireturn, 1) := by decide +kernel
theorem dX9_sizeOf_0 : decode cX9_sizeOf 0 = .ok (.aload_n 0, 1) := by decide +kernel
theorem dX9_sizeOf_1 : decode cX9_sizeOf 1 = .ok (.getfield 21, 3) := by decide +kernel
theorem dX9_sizeOf_4 : decode cX9_sizeOf 4 = .ok (.aload_n 0, 1) := by decide +kernel
theorem dX9_sizeOf_5 : decode cX9_sizeOf 5 = .ok (.getfield 9, 3) := by decide +kernel
theorem dX9_sizeOf_8 : decode cX9_sizeOf 8 = .ok (.iload_n 1, 1) := by decide +kernel
theorem dX9_sizeOf_9 : decode cX9_sizeOf 9 = .ok (.iaload, 1) := by decide +kernel
theorem dX9_sizeOf_10 : decode cX9_sizeOf 10 = .ok (.iaload, 1) := by decide +kernel
theorem dX9_sizeOf_11 : decode cX9_sizeOf 11 = .ok (.ireturn, 1) := by decide +kernel
theorem dX9_wordAt_0 : decode cX9_wordAt 0 = .ok (.aload_n 0, 1) := by decide +kernel
theorem dX9_wordAt_1 : decode cX9_wordAt 1 = .ok (.getfield 24, 3) := by decide +kernel
theorem dX9_wordAt_4 : decode cX9_wordAt 4 = .ok (.aload_n 0, 1) := by decide +kernel
theorem dX9_wordAt_5 : decode cX9_wordAt 5 = .ok (.getfield 9, 3) := by decide +kernel
theorem dX9_wordAt_8 : decode cX9_wordAt 8 = .ok (.iload_n 1, 1) := by decide +kernel
theorem dX9_wordAt_9 : decode cX9_wordAt 9 = .ok (.iaload, 1) := by decide +kernel
theorem dX9_wordAt_10 : decode cX9_wordAt 10 = .ok (.bipush 8, 2) := by decide +kernel
theorem dX9_wordAt_12 : decode cX9_wordAt 12 = .ok (.imul, 1) := by decide +kernel
theorem dX9_wordAt_13 : decode cX9_wordAt 13 = .ok (.iload_n 2, 1) := by decide +kernel
theorem dX9_wordAt_14 : decode cX9_wordAt 14 = .ok (.iadd, 1) := by decide +kernel
theorem dX9_wordAt_15 : decode cX9_wordAt 15 = .ok (.iaload, 1) := by decide +kernel
theorem dX9_wordAt_16 : decode cX9_wordAt 16 = .ok (.ireturn, 1) := by decide +kernel
theorem dX9_changeDuration_0 : decode cX9_changeDuration 0 = .ok (.aload_n 0, 1) := by decide +kernel
theorem dX9_changeDuration_1 : decode cX9_changeDuration 1 = .ok (.getfield 15, 3) := by decide +kernel
theorem dX9_changeDuration_4 : decode cX9_changeDuration 4 = .ok (.aload_n 0, 1) := by decide +kernel
theorem dX9_changeDuration_5 : decode cX9_changeDuration 5 = .ok (.getfield 9, 3) := by decide +kernel
theorem dX9_changeDuration_8 : decode cX9_changeDuration 8 = .ok (.iload_n 1, 1) := by decide +kernel
theorem dX9_changeDuration_9 : decode cX9_changeDuration 9 = .ok (.iaload, 1) := by decide +kernel
theorem dX9_changeDuration_10 : decode cX9_changeDuration 10 = .ok (.iload_n 2, 1) := by decide +kernel
theorem dX9_changeDuration_11 : decode cX9_changeDuration 11 = .ok (.iastore, 1) := by decide +kernel
theorem dX9_changeDuration_12 : decode cX9_changeDuration 12 = .ok (.return_, 1) := by decide +kernel
theorem dX9_changePause_0 : decode cX9_changePause 0 = .ok (.aload_n 0, 1) := by decide +kernel
theorem dX9_changePause_1 : decode cX9_changePause 1 = .ok (.getfield 18, 3) := by decide +kernel
theorem dX9_changePause_4 : decode cX9_changePause 4 = .ok (.aload_n 0, 1) := by decide +kernel
theorem dX9_changePause_5 : decode cX9_changePause 5 = .ok (.getfield 9, 3) := by decide +kernel
theorem dX9_changePause_8 : decode cX9_changePause 8 = .ok (.iload_n 1, 1) := by decide +kernel
theorem dX9_changePause_9 : decode cX9_changePause 9 = .ok (.iaload, 1) := by decide +kernel
theorem dX9_changePause_10 : decode cX9_changePause 10 = .ok (.iload_n 2, 1) := by decide +kernel
theorem dX9_changePause_11 : decode cX9_changePause 11 = .ok (.iastore, 1) := by decide +kernel
theorem dX9_changePause_12 : decode cX9_changePause 12 = .ok (.return_, 1) := by decide +kernel
theorem dX9_putWord_0 : decode cX9_putWord 0 = .ok (.aload_n 0, 1) := by decide +kernel
theorem dX9_putWord_1 : decode cX9_putWord 1 = .ok (.getfield 9, 3) := by decide +kernel
theorem dX9_putWord_4 : decode cX9_putWord 4 = .ok (.iload_n 1, 1) := by decide +kernel
theorem dX9_putWord_5 : decode cX9_putWord 5 = .ok (.iaload, 1) := by decide +kernel
theorem dX9_putWord_6 : decode cX9_putWord 6 = .ok (.istore_n 3, 1) := by decide +kernel
theorem dX9_putWord_7 : decode cX9_putWord 7 = .ok (.aload_n 0, 1) := by decide +kernel
theorem dX9_putWord_8 : decode cX9_putWord 8 = .ok (.getfield 21, 3) := by decide +kernel
theorem dX9_putWord_11 : decode cX9_putWord 11 = .ok (.iload_n 3, 1) := by decide +kernel
theorem dX9_putWord_12 : decode cX9_putWord 12 = .ok (.iaload, 1) := by decide +kernel
theorem dX9_putWord_13 : decode cX9_putWord 13 = .ok (.bipush 8, 2) := by decide +kernel
theorem dX9_putWord_15 : decode cX9_putWord 15 = .ok (.if_icmp .lt 5, 3) := by decide +kernel
theorem dX9_putWord_18 : decode cX9_putWord 18 = .ok (.iconst 0, 1) := by decide +kernel
theorem dX9_putWord_19 : decode cX9_putWord 19 = .ok (.ireturn, 1) := by decide +kernel
theorem dX9_putWord_20 : decode cX9_putWord 20 = .ok (.aload_n 0, 1) := by decide +kernel
theorem dX9_putWord_21 : decode cX9_putWord 21 = .ok (.getfield 24, 3) := by decide +kernel
theorem dX9_putWord_24 : decode cX9_putWord 24 = .ok (.iload_n 3, 1) := by decide +kernel
theorem dX9_putWord_25 : decode cX9_putWord 25 = .ok (.bipush 8, 2) := by decide +kernel
theorem dX9_putWord_27 : decode cX9_putWord 27 = .ok (.imul, 1) := by decide +kernel
theorem dX9_putWord_28 : decode cX9_putWord 28 = .ok (.aload_n 0, 1) := by decide +kernel
theorem dX9_putWord_29 : decode cX9_putWord 29 = .ok (.getfield 21, 3) := by decide +kernel
theorem dX9_putWord_32 : decode cX9_putWord 32 = .ok (.iload_n 3, 1) := by decide +kernel
theorem dX9_putWord_33 : decode cX9_putWord 33 = .ok (.iaload, 1) := by decide +kernel
theorem dX9_putWord_34 : decode cX9_putWord 34 = .ok (.iadd, 1) := by decide +kernel
theorem dX9_putWord_35 : decode cX9_putWord 35 = .ok (.iload_n 2, 1) := by decide +kernel
theorem dX9_putWord_36 : decode cX9_putWord 36 = .ok (.iastore, 1) := by decide +kernel
theorem dX9_putWord_37 : decode cX9_putWord 37 = .ok (.aload_n 0, 1) := by decide +kernel
theorem dX9_putWord_38 : decode cX9_putWord 38 = .ok (.getfield 21, 3) := by decide +kernel
theorem dX9_putWord_41 : decode cX9_putWord 41 = .ok (.iload_n 3, 1) := by decide +kernel
theorem dX9_putWord_42 : decode cX9_putWord 42 = .ok (.dup2, 1) := by decide +kernel
theorem dX9_putWord_43 : decode cX9_putWord 43 = .ok (.iaload, 1) := by decide +kernel
theorem dX9_putWord_44 : decode cX9_putWord 44 = .ok (.iconst 1, 1) := by decide +kernel
theorem dX9_putWord_45 : decode cX9_putWord 45 = .ok (.iadd, 1) := by decide +kernel
theorem dX9_putWord_46 : decode cX9_putWord 46 = .ok (.iastore, 1) := by decide +kernel
theorem dX9_putWord_47 : decode cX9_putWord 47 = .ok (.iconst 1, 1) := by decide +kernel
theorem dX9_putWord_48 : decode cX9_putWord 48 = .ok (.ireturn, 1) := by decide +kernel
theorem dX9_dropSegment_0 : decode cX9_dropSegment 0 = .ok (.iload_n 1, 1) := by decide +kernel
theorem dX9_dropSegment_1 : decode cX9_dropSegment 1 = .ok (.istore_n 2, 1) := by decide +kernel
theorem dX9_dropSegment_2 : decode cX9_dropSegment 2 = .ok (.iload_n 2, 1) := by decide +kernel
theorem dX9_dropSegment_3 : decode cX9_dropSegment 3 = .ok (.aload_n 0, 1) := by decide +kernel
theorem dX9_dropSegment_4 : decode cX9_dropSegment 4 = .ok (.getfield 31, 3) := by decide +kernel
theorem dX9_dropSegment_7 : decode cX9_dropSegment 7 = .ok (.iconst 1, 1) := by decide +kernel
theorem dX9_dropSegment_8 : decode cX9_dropSegment 8 = .ok (.isub, 1) := by decide +kernel
theorem dX9_dropSegment_9 : decode cX9_dropSegment 9 = .ok (.if_icmp .ge 23, 3) := by decide +kernel
theorem dX9_dropSegment_12 : decode cX9_dropSegment 12 = .ok (.aload_n 0, 1) := by decide +kernel
theorem dX9_dropSegment_13 : decode cX9_dropSegment 13 = .ok (.getfield 9, 3) := by decide +kernel
theorem dX9_dropSegment_16 : decode cX9_dropSegment 16 = .ok (.iload_n 2, 1) := by decide +kernel
theorem dX9_dropSegment_17 : decode cX9_dropSegment 17 = .ok (.aload_n 0, 1) := by decide +kernel
theorem dX9_dropSegment_18 : decode cX9_dropSegment 18 = .ok (.getfield 9, 3) := by decide +kernel
theorem dX9_dropSegment_21 : decode cX9_dropSegment 21 = .ok (.iload_n 2, 1) := by decide +kernel
theorem dX9_dropSegment_22 : decode cX9_dropSegment 22 = .ok (.iconst 1, 1) := by decide +kernel
theorem dX9_dropSegment_23 : decode cX9_dropSegment 23 = .ok (.iadd, 1) := by decide +kernel
theorem dX9_dropSegment_24 : decode cX9_dropSegment 24 = .ok (.iaload, 1) := by decide +kernel
theorem dX9_dropSegment_25 : decode cX9_dropSegment 25 = .ok (.iastore, 1) := by decide +kernel
theorem dX9_dropSegment_26 : decode cX9_dropSegment 26 = .ok (.iinc 2 1, 3) := by decide +kernel
theorem dX9_dropSegment_29 : decode cX9_dropSegment 29 = .ok (.goto (-27), 3) := by decide +kernel
theorem dX9_dropSegment_32 : decode cX9_dropSegment 32 = .ok (.aload_n 0, 1) := by decide +kernel
theorem dX9_dropSegment_33 : decode cX9_dropSegment 33 = .ok (.dup, 1) := by decide +kernel
theorem dX9_dropSegment_34 : decode cX9_dropSegment 34 = .ok (.getfield 31, 3) := by decide +kernel
theorem dX9_dropSegment_37 : decode cX9_dropSegment 37 = .ok (.iconst 1, 1) := by decide +kernel
theorem dX9_dropSegment_38 : decode cX9_dropSegment 38 = .ok (.isub, 1) := by decide +kernel
theorem dX9_dropSegment_39 : decode cX9_dropSegment 39 = .ok (.putfield 31, 3) := by decide +kernel
theorem dX9_dropSegment_42 : decode cX9_dropSegment 42 = .ok (.return_, 1) := by decide +kernel
theorem dX9_shiftSegment_0 : decode cX9_shiftSegment 0 = .ok (.aload_n 0, 1) := by decide +kernel
theorem dX9_shiftSegment_1 : decode cX9_shiftSegment 1 = .ok (.getfield 9, 3) := by decide +kernel
theorem dX9_shiftSegment_4 : decode cX9_shiftSegment 4 = .ok (.iload_n 1, 1) := by decide +kernel
theorem dX9_shiftSegment_5 : decode cX9_shiftSegment 5 = .ok (.iaload, 1) := by decide +kernel
theorem dX9_shiftSegment_6 : decode cX9_shiftSegment 6 = .ok (.istore_n 3, 1) := by decide +kernel
theorem dX9_shiftSegment_7 : decode cX9_shiftSegment 7 = .ok (.iload_n 1, 1) := by decide +kernel
theorem dX9_shiftSegment_8 : decode cX9_shiftSegment 8 = .ok (.istore 4, 2) := by decide +kernel
theorem dX9_shiftSegment_10 : decode cX9_shiftSegment 10 = .ok (.iload 4, 2) := by decide +kernel
theorem dX9_shiftSegment_12 : decode cX9_shiftSegment 12 = .ok (.iload_n 2, 1) := by decide +kernel
theorem dX9_shiftSegment_13 : decode cX9_shiftSegment 13 = .ok (.if_icmp .ge 25, 3) := by decide +kernel
theorem dX9_shiftSegment_16 : decode cX9_shiftSegment 16 = .ok (.aload_n 0, 1) := by decide +kernel
theorem dX9_shiftSegment_17 : decode cX9_shiftSegment 17 = .ok (.getfield 9, 3) := by decide +kernel
theorem dX9_shiftSegment_20 : decode cX9_shiftSegment 20 = .ok (.iload 4, 2) := by decide +kernel
theorem dX9_shiftSegment_22 : decode cX9_shiftSegment 22 = .ok (.aload_n 0, 1) := by decide +kernel
theorem dX9_shiftSegment_23 : decode cX9_shiftSegment 23 = .ok (.getfield 9, 3) := by decide +kernel
theorem dX9_shiftSegment_26 : decode cX9_shiftSegment 26 = .ok (.iload 4, 2) := by decide +kernel
theorem dX9_shiftSegment_28 : decode cX9_shiftSegment 28 = .ok (.iconst 1, 1) := by decide +kernel
theorem dX9_shiftSegment_29 : decode cX9_shiftSegment 29 = .ok (.iadd, 1) := by decide +kernel
theorem dX9_shiftSegment_30 : decode cX9_shiftSegment 30 = .ok (.iaload, 1) := by decide +kernel
theorem dX9_shiftSegment_31 : decode cX9_shiftSegment 31 = .ok (.iastore, 1) := by decide +kernel
theorem dX9_shiftSegment_32 : decode cX9_shiftSegment 32 = .ok (.iinc 4 1, 3) := by decide +kernel
theorem dX9_shiftSegment_35 : decode cX9_shiftSegment 35 = .ok (.goto (-25), 3) := by decide +kernel
theorem dX9_shiftSegment_38 : decode cX9_shiftSegment 38 = .ok (.iload_n 1, 1) := by decide +kernel
theorem dX9_shiftSegment_39 : decode cX9_shiftSegment 39 = .ok (.istore 4, 2) := by decide +kernel
theorem dX9_shiftSegment_41 : decode cX9_shiftSegment 41 = .ok (.iload 4, 2) := by decide +kernel
theorem dX9_shiftSegment_43 : decode cX9_shiftSegment 43 = .ok (.iload_n 2, 1) := by decide +kernel
theorem dX9_shiftSegment_44 : decode cX9_shiftSegment 44 = .ok (.if_icmp .le 25, 3) := by decide +kernel
theorem dX9_shiftSegment_47 : decode cX9_shiftSegment 47 = .ok (.aload_n 0, 1) := by decide +kernel
theorem dX9_shiftSegment_48 : decode cX9_shiftSegment 48 = .ok (.getfield 9, 3) := by decide +kernel
theorem dX9_shiftSegment_51 : decode cX9_shiftSegment 51 = .ok (.iload 4, 2) := by decide +kernel
theorem dX9_shiftSegment_53 : decode cX9_shiftSegment 53 = .ok (.aload_n 0, 1) := by decide +kernel
theorem dX9_shiftSegment_54 : decode cX9_shiftSegment 54 = .ok (.getfield 9, 3) := by decide +kernel
theorem dX9_shiftSegment_57 : decode cX9_shiftSegment 57 = .ok (.iload 4, 2) := by decide +kernel
theorem dX9_shiftSegment_59 : decode cX9_shiftSegment 59 = .ok (.iconst 1, 1) := by decide +kernel
theorem dX9_shiftSegment_60 : decode cX9_shiftSegment 60 = .ok (.isub, 1) := by decide +kernel
theorem dX9_shiftSegment_61 : decode cX9_shiftSegment 61 = .ok (.iaload, 1) := by decide +kernel
theorem dX9_shiftSegment_62 : decode cX9_shiftSegment 62 = .ok (.iastore, 1) := by decide +kernel
theorem dX9_shiftSegment_63 : decode cX9_shiftSegment 63 = .ok (.iinc 4 (-1), 3) := by decide +kernel
theorem dX9_shiftSegment_66 : decode cX9_shiftSegment 66 = .ok (.goto (-25), 3) := by decide +kernel
theorem dX9_shiftSegment_69 : decode cX9_shiftSegment 69 = .ok (.aload_n 0, 1) := by decide +kernel
theorem dX9_shiftSegment_70 : decode cX9_shiftSegment 70 = .ok (.getfield 9, 3) := by decide +kernel
theorem dX9_shiftSegment_73 : decode cX9_shiftSegment 73 = .ok (.iload_n 2, 1) := by decide +kernel
theorem dX9_shiftSegment_74 : decode cX9_shiftSegment 74 = .ok (.iload_n 3, 1) := by decide +kernel
theorem dX9_shiftSegment_75 : decode cX9_shiftSegment 75 = .ok (.iastore, 1) := by decide +kernel
theorem dX9_shiftSegment_76 : decode cX9_shiftSegment 76 = .ok (.return_, 1) := by decide +kernel
set_option maxRecDepth 100000 in
theorem ggX9_startOf_X9_durationOf : GoodIn wsX9_startOf wsX9_durationOf := goodIn_r _ [5, 6, 7, 8, 9, 10, 11, 12, 13, 14, 15] rfl (by decide +kernel)
set_option maxRecDepth 100000 in
theorem gX9_startOf_X9_durationOf : GoodIn wsX9_startOf (wsV RX9 44 RX9 yX9_durationOf wsX9_durationOf) := goodIn_app (goodIn_of _ (by decide +kernel)) ggX9_startOf_X9_durationOf
theorem dX9_startOf_0 : decode cX9_startOf 0 = .ok (.iconst 0, 1) := by decide +kernel
theorem dX9_startOf_1 : decode cX9_startOf 1 = .ok (.istore_n 2, 1) := by decide +kernel
theorem dX9_startOf_2 : decode cX9_startOf 2 = .ok (.iconst 0, 1) := by decide +kernel
theorem dX9_startOf_3 : decode cX9_startOf 3 = .ok (.istore_n 3, 1) := by decide +kernel
theorem dX9_startOf_4 : decode cX9_startOf 4 = .ok (.iload_n 3, 1) := by decide +kernel
theorem dX9_startOf_5 : decode cX9_startOf 5 = .ok (.iload_n 1, 1) := by decide +kernel
theorem dX9_startOf_6 : decode cX9_startOf 6 = .ok (.if_icmp .ge 17, 3) := by decide +kernel
theorem dX9_startOf_9 : decode cX9_startOf 9 = .ok (.iload_n 2, 1) := by decide +kernel
theorem dX9_startOf_10 : decode cX9_startOf 10 = .ok (.aload_n 0, 1) := by decide +kernel
theorem dX9_startOf_11 : decode cX9_startOf 11 = .ok (.iload_n 3, 1) := by decide +kernel
theorem dX9_startOf_12 : decode cX9_startOf 12 = .ok (.invokevirtual 44, 3) := by decide +kernel
theorem dX9_startOf_15 : decode cX9_startOf 15 = .ok (.iadd, 1) := by decide +kernel
theorem dX9_startOf_16 : decode cX9_startOf 16 = .ok (.istore_n 2, 1) := by decide +kernel
theorem dX9_startOf_17 : decode cX9_startOf 17 = .ok (.iinc 3 1, 3) := by decide +kernel
theorem dX9_startOf_20 : decode cX9_startOf 20 = .ok (.goto (-16), 3) := by decide +kernel
theorem dX9_startOf_23 : decode cX9_startOf 23 = .ok (.iload_n 2, 1) := by decide +kernel
theorem dX9_startOf_24 : decode cX9_startOf 24 = .ok (.ireturn, 1) := by decide +kernel
set_option maxRecDepth 100000 in
theorem ggX9_segmentSpokenAt_X9_durationOf : GoodIn wsX9_segmentSpokenAt wsX9_durationOf := goodIn_r _ [6, 7, 8, 9, 10, 11, 12, 13, 14, 15, 16] rfl (by decide +kernel)
set_option maxRecDepth 100000 in
theorem gX9_segmentSpokenAt_X9_durationOf : GoodIn wsX9_segmentSpokenAt (wsV RX9 44 RX9 yX9_durationOf wsX9_durationOf) := goodIn_app (goodIn_of _ (by decide +kernel)) ggX9_segmentSpokenAt_X9_durationOf
theorem dX9_segmentSpokenAt_0 : decode cX9_segmentSpokenAt 0 = .ok (.iload_n 1, 1) := by decide +kernel
theorem dX9_segmentSpokenAt_1 : decode cX9_segmentSpokenAt 1 = .ok (.ifCond .ge 5, 3) := by decide +kernel
theorem dX9_segmentSpokenAt_4 : decode cX9_segmentSpokenAt 4 = .ok (.iconst (-1), 1) := by decide +kernel
theorem dX9_segmentSpokenAt_5 : decode cX9_segmentSpokenAt 5 = .ok (.ireturn, 1) := by decide +kernel
theorem dX9_segmentSpokenAt_6 : decode cX9_segmentSpokenAt 6 = .ok (.iconst 0, 1) := by decide +kernel
theorem dX9_segmentSpokenAt_7 : decode cX9_segmentSpokenAt 7 = .ok (.istore_n 2, 1) := by decide +kernel
theorem dX9_segmentSpokenAt_8 : decode cX9_segmentSpokenAt 8 = .ok (.iconst 0, 1) := by decide +kernel
theorem dX9_segmentSpokenAt_9 : decode cX9_segmentSpokenAt 9 = .ok (.istore_n 3, 1) := by decide +kernel
theorem dX9_segmentSpokenAt_10 : decode cX9_segmentSpokenAt 10 = .ok (.iload_n 3, 1) := by decide +kernel
theorem dX9_segmentSpokenAt_11 : decode cX9_segmentSpokenAt 11 = .ok (.aload_n 0, 1) := by decide +kernel
theorem dX9_segmentSpokenAt_12 : decode cX9_segmentSpokenAt 12 = .ok (.getfield 31, 3) := by decide +kernel
theorem dX9_segmentSpokenAt_15 : decode cX9_segmentSpokenAt 15 = .ok (.if_icmp .ge 24, 3) := by decide +kernel
theorem dX9_segmentSpokenAt_18 : decode cX9_segmentSpokenAt 18 = .ok (.iload_n 2, 1) := by decide +kernel
theorem dX9_segmentSpokenAt_19 : decode cX9_segmentSpokenAt 19 = .ok (.aload_n 0, 1) := by decide +kernel
theorem dX9_segmentSpokenAt_20 : decode cX9_segmentSpokenAt 20 = .ok (.iload_n 3, 1) := by decide +kernel
theorem dX9_segmentSpokenAt_21 : decode cX9_segmentSpokenAt 21 = .ok (.invokevirtual 44, 3) := by decide +kernel
theorem dX9_segmentSpokenAt_24 : decode cX9_segmentSpokenAt 24 = .ok (.iadd, 1) := by decide +kernel
theorem dX9_segmentSpokenAt_25 : decode cX9_segmentSpokenAt 25 = .ok (.istore_n 2, 1) := by decide +kernel
theorem dX9_segmentSpokenAt_26 : decode cX9_segmentSpokenAt 26 = .ok (.iload_n 1, 1) := by decide +kernel
theorem dX9_segmentSpokenAt_27 : decode cX9_segmentSpokenAt 27 = .ok (.iload_n 2, 1) := by decide +kernel
theorem dX9_segmentSpokenAt_28 : decode cX9_segmentSpokenAt 28 = .ok (.if_icmp .ge 5, 3) := by decide +kernel
theorem dX9_segmentSpokenAt_31 : decode cX9_segmentSpokenAt 31 = .ok (.iload_n 3, 1) := by decide +kernel
theorem dX9_segmentSpokenAt_32 : decode cX9_segmentSpokenAt 32 = .ok (.ireturn, 1) := by decide +kernel
theorem dX9_segmentSpokenAt_33 : decode cX9_segmentSpokenAt 33 = .ok (.iinc 3 1, 3) := by decide +kernel
theorem dX9_segmentSpokenAt_36 : decode cX9_segmentSpokenAt 36 = .ok (.goto (-26), 3) := by decide +kernel
theorem dX9_segmentSpokenAt_39 : decode cX9_segmentSpokenAt 39 = .ok (.iconst (-1), 1) := by decide +kernel
theorem dX9_segmentSpokenAt_40 : decode cX9_segmentSpokenAt 40 = .ok (.ireturn, 1) := by decide +kernel
theorem dX9_segmentOfRow_0 : decode cX9_segmentOfRow 0 = .ok (.iconst 0, 1) := by decide +kernel
theorem dX9_segmentOfRow_1 : decode cX9_segmentOfRow 1 = .ok (.istore_n 2, 1) := by decide +kernel
theorem dX9_segmentOfRow_2 : decode cX9_segmentOfRow 2 = .ok (.iload_n 2, 1) := by decide +kernel
theorem dX9_segmentOfRow_3 : decode cX9_segmentOfRow 3 = .ok (.aload_n 0, 1) := by decide +kernel
theorem dX9_segmentOfRow_4 : decode cX9_segmentOfRow 4 = .ok (.getfield 31, 3) := by decide +kernel
theorem dX9_segmentOfRow_7 : decode cX9_segmentOfRow 7 = .ok (.if_icmp .ge 21, 3) := by decide +kernel
theorem dX9_segmentOfRow_10 : decode cX9_segmentOfRow 10 = .ok (.aload_n 0, 1) := by decide +kernel
theorem dX9_segmentOfRow_11 : decode cX9_segmentOfRow 11 = .ok (.getfield 9, 3) := by decide +kernel
theorem dX9_segmentOfRow_14 : decode cX9_segmentOfRow 14 = .ok (.iload_n 2, 1) := by decide +kernel
theorem dX9_segmentOfRow_15 : decode cX9_segmentOfRow 15 = .ok (.iaload, 1) := by decide +kernel
theorem dX9_segmentOfRow_16 : decode cX9_segmentOfRow 16 = .ok (.iload_n 1, 1) := by decide +kernel
theorem dX9_segmentOfRow_17 : decode cX9_segmentOfRow 17 = .ok (.if_icmp .ne 5, 3) := by decide +kernel
theorem dX9_segmentOfRow_20 : decode cX9_segmentOfRow 20 = .ok (.iload_n 2, 1) := by decide +kernel
theorem dX9_segmentOfRow_21 : decode cX9_segmentOfRow 21 = .ok (.ireturn, 1) := by decide +kernel
theorem dX9_segmentOfRow_22 : decode cX9_segmentOfRow 22 = .ok (.iinc 2 1, 3) := by decide +kernel
theorem dX9_segmentOfRow_25 : decode cX9_segmentOfRow 25 = .ok (.goto (-23), 3) := by decide +kernel
theorem dX9_segmentOfRow_28 : decode cX9_segmentOfRow 28 = .ok (.iconst (-1), 1) := by decide +kernel
theorem dX9_segmentOfRow_29 : decode cX9_segmentOfRow 29 = .ok (.ireturn, 1) := by decide +kernel
set_option maxRecDepth 100000 in
theorem ggX9_allWords_X9_sizeOf : GoodIn wsX9_allWords wsX9_sizeOf := goodIn_r _ [6, 7, 8, 9, 10, 11, 12, 13, 14, 15, 16] rfl (by decide +kernel)
set_option maxRecDepth 100000 in
theorem gX9_allWords_X9_sizeOf : GoodIn wsX9_allWords (wsV RX9 48 RX9 yX9_sizeOf wsX9_sizeOf) := goodIn_app (goodIn_of _ (by decide +kernel)) ggX9_allWords_X9_sizeOf
theorem dX9_allWords_0 : decode cX9_allWords 0 = .ok (.iconst 0, 1) := by decide +kernel
theorem dX9_allWords_1 : decode cX9_allWords 1 = .ok (.istore_n 1, 1) := by decide +kernel
theorem dX9_allWords_2 : decode cX9_allWords 2 = .ok (.iconst 0, 1) := by decide +kernel
theorem dX9_allWords_3 : decode cX9_allWords 3 = .ok (.istore_n 2, 1) := by decide +kernel
theorem dX9_allWords_4 : decode cX9_allWords 4 = .ok (.iload_n 2, 1) := by decide +kernel
theorem dX9_allWords_5 : decode cX9_allWords 5 = .ok (.aload_n 0, 1) := by decide +kernel
theorem dX9_allWords_6 : decode cX9_allWords 6 = .ok (.getfield 31, 3) := by decide +kernel
theorem dX9_allWords_9 : decode cX9_allWords 9 = .ok (.if_icmp .ge 17, 3) := by decide +kernel
theorem dX9_allWords_12 : decode cX9_allWords 12 = .ok (.iload_n 1, 1) := by decide +kernel
theorem dX9_allWords_13 : decode cX9_allWords 13 = .ok (.aload_n 0, 1) := by decide +kernel
theorem dX9_allWords_14 : decode cX9_allWords 14 = .ok (.iload_n 2, 1) := by decide +kernel
theorem dX9_allWords_15 : decode cX9_allWords 15 = .ok (.invokevirtual 48, 3) := by decide +kernel
theorem dX9_allWords_18 : decode cX9_allWords 18 = .ok (.iadd, 1) := by decide +kernel
theorem dX9_allWords_19 : decode cX9_allWords 19 = .ok (.istore_n 1, 1) := by decide +kernel
theorem dX9_allWords_20 : decode cX9_allWords 20 = .ok (.iinc 2 1, 3) := by decide +kernel
theorem dX9_allWords_23 : decode cX9_allWords 23 = .ok (.goto (-19), 3) := by decide +kernel
theorem dX9_allWords_26 : decode cX9_allWords 26 = .ok (.iload_n 1, 1) := by decide +kernel
theorem dX9_allWords_27 : decode cX9_allWords 27 = .ok (.ireturn, 1) := by decide +kernel
set_option maxRecDepth 100000 in
theorem ggX9_longPauses_X9_boundaryCount : GoodIn wsX9_longPauses wsX9_boundaryCount := goodIn_r _ [5, 6, 13, 14, 15, 16, 17, 18, 19, 20] rfl (by decide +kernel)
set_option maxRecDepth 100000 in
theorem gX9_longPauses_X9_boundaryCount : GoodIn wsX9_longPauses (wsV RX9 51 RX9 yX9_boundaryCount wsX9_boundaryCount) := goodIn_app (goodIn_of _ (by decide +kernel)) ggX9_longPauses_X9_boundaryCount
set_option maxRecDepth 100000 in
theorem ggX9_longPauses_X9_pauseOf : GoodIn wsX9_longPauses wsX9_pauseOf := goodIn_r _ [10, 11, 12, 13, 14, 15, 16, 17, 18, 19, 20] rfl (by decide +kernel)
set_option maxRecDepth 100000 in
theorem gX9_longPauses_X9_pauseOf : GoodIn wsX9_longPauses (wsV RX9 55 RX9 yX9_pauseOf wsX9_pauseOf) := goodIn_app (goodIn_of _ (by decide +kernel)) ggX9_longPauses_X9_pauseOf
theorem dX9_longPauses_0 : decode cX9_longPauses 0 = .ok (.iconst 0, 1) := by decide +kernel
theorem dX9_longPauses_1 : decode cX9_longPauses 1 = .ok (.istore_n 2, 1) := by decide +kernel
theorem dX9_longPauses_2 : decode cX9_longPauses 2 = .ok (.iconst 0, 1) := by decide +kernel
theorem dX9_longPauses_3 : decode cX9_longPauses 3 = .ok (.istore_n 3, 1) := by decide +kernel
theorem dX9_longPauses_4 : decode cX9_longPauses 4 = .ok (.iload_n 3, 1) := by decide +kernel
theorem dX9_longPauses_5 : decode cX9_longPauses 5 = .ok (.aload_n 0, 1) := by decide +kernel
theorem dX9_longPauses_6 : decode cX9_longPauses 6 = .ok (.invokevirtual 51, 3) := by decide +kernel
theorem dX9_longPauses_9 : decode cX9_longPauses 9 = .ok (.if_icmp .ge 21, 3) := by decide +kernel
theorem dX9_longPauses_12 : decode cX9_longPauses 12 = .ok (.aload_n 0, 1) := by decide +kernel
theorem dX9_longPauses_13 : decode cX9_longPauses 13 = .ok (.iload_n 3, 1) := by decide +kernel
theorem dX9_longPauses_14 : decode cX9_longPauses 14 = .ok (.invokevirtual 55, 3) := by decide +kernel
theorem dX9_longPauses_17 : decode cX9_longPauses 17 = .ok (.iload_n 1, 1) := by decide +kernel
theorem dX9_longPauses_18 : decode cX9_longPauses 18 = .ok (.if_icmp .lt 6, 3) := by decide +kernel
theorem dX9_longPauses_21 : decode cX9_longPauses 21 = .ok (.iinc 2 1, 3) := by decide +kernel
theorem dX9_longPauses_24 : decode cX9_longPauses 24 = .ok (.iinc 3 1, 3) := by decide +kernel
theorem dX9_longPauses_27 : decode cX9_longPauses 27 = .ok (.goto (-23), 3) := by decide +kernel
theorem dX9_longPauses_30 : decode cX9_longPauses 30 = .ok (.iload_n 2, 1) := by decide +kernel
theorem dX9_longPauses_31 : decode cX9_longPauses 31 = .ok (.ireturn, 1) := by decide +kernel
theorem dX9_numberOf_0 : decode cX9_numberOf 0 = .ok (.iconst 0, 1) := by decide +kernel
theorem dX9_numberOf_1 : decode cX9_numberOf 1 = .ok (.istore_n 3, 1) := by decide +kernel
theorem dX9_numberOf_2 : decode cX9_numberOf 2 = .ok (.iload_n 3, 1) := by decide +kernel
theorem dX9_numberOf_3 : decode cX9_numberOf 3 = .ok (.aload_n 0, 1) := by decide +kernel
theorem dX9_numberOf_4 : decode cX9_numberOf 4 = .ok (.getfield 35, 3) := by decide +kernel
theorem dX9_numberOf_7 : decode cX9_numberOf 7 = .ok (.if_icmp .ge 22, 3) := by decide +kernel
theorem dX9_numberOf_10 : decode cX9_numberOf 10 = .ok (.aload_n 0, 1) := by decide +kernel
theorem dX9_numberOf_11 : decode cX9_numberOf 11 = .ok (.getfield 27, 3) := by decide +kernel
theorem dX9_numberOf_14 : decode cX9_numberOf 14 = .ok (.iload_n 3, 1) := by decide +kernel
theorem dX9_numberOf_15 : decode cX9_numberOf 15 = .ok (.laload, 1) := by decide +kernel
theorem dX9_numberOf_16 : decode cX9_numberOf 16 = .ok (.lload_n 1, 1) := by decide +kernel
theorem dX9_numberOf_17 : decode cX9_numberOf 17 = .ok (.lcmp, 1) := by decide +kernel
theorem dX9_numberOf_18 : decode cX9_numberOf 18 = .ok (.ifCond .ne 5, 3) := by decide +kernel
theorem dX9_numberOf_21 : decode cX9_numberOf 21 = .ok (.iload_n 3, 1) := by decide +kernel
theorem dX9_numberOf_22 : decode cX9_numberOf 22 = .ok (.ireturn, 1) := by decide +kernel
theorem dX9_numberOf_23 : decode cX9_numberOf 23 = .ok (.iinc 3 1, 3) := by decide +kernel
theorem dX9_numberOf_26 : decode cX9_numberOf 26 = .ok (.goto (-24), 3) := by decide +kernel
theorem dX9_numberOf_29 : decode cX9_numberOf 29 = .ok (.iconst (-1), 1) := by decide +kernel
theorem dX9_numberOf_30 : decode cX9_numberOf 30 = .ok (.ireturn, 1) := by decide +kernel
set_option maxRecDepth 100000 in
theorem ggX9_mention_X9_numberOf : GoodIn wsX9_mention wsX9_numberOf := goodIn_r _ [7, 1, 2, 8, 9, 10, 11, 12, 13, 14, 15] rfl (by decide +kernel)
set_option maxRecDepth 100000 in
theorem gX9_mention_X9_numberOf : GoodIn wsX9_mention (wsV RX9 58 RX9 yX9_numberOf wsX9_numberOf) := goodIn_app (goodIn_of _ (by decide +kernel)) ggX9_mention_X9_numberOf
theorem dX9_mention_0 : decode cX9_mention 0 = .ok (.aload_n 0, 1) := by decide +kernel
theorem dX9_mention_1 : decode cX9_mention 1 = .ok (.lload_n 1, 1) := by decide +kernel
theorem dX9_mention_2 : decode cX9_mention 2 = .ok (.invokevirtual 58, 3) := by decide +kernel
theorem dX9_mention_5 : decode cX9_mention 5 = .ok (.istore_n 3, 1) := by decide +kernel
theorem dX9_mention_6 : decode cX9_mention 6 = .ok (.iload_n 3, 1) := by decide +kernel
theorem dX9_mention_7 : decode cX9_mention 7 = .ok (.iconst (-1), 1) := by decide +kernel
theorem dX9_mention_8 : decode cX9_mention 8 = .ok (.if_icmp .ne 12, 3) := by decide +kernel
theorem dX9_mention_11 : decode cX9_mention 11 = .ok (.aload_n 0, 1) := by decide +kernel
theorem dX9_mention_12 : decode cX9_mention 12 = .ok (.getfield 35, 3) := by decide +kernel
theorem dX9_mention_15 : decode cX9_mention 15 = .ok (.bipush 24, 2) := by decide +kernel
theorem dX9_mention_17 : decode cX9_mention 17 = .ok (.if_icmp .lt 5, 3) := by decide +kernel
theorem dX9_mention_20 : decode cX9_mention 20 = .ok (.iload_n 3, 1) := by decide +kernel
theorem dX9_mention_21 : decode cX9_mention 21 = .ok (.ireturn, 1) := by decide +kernel
theorem dX9_mention_22 : decode cX9_mention 22 = .ok (.aload_n 0, 1) := by decide +kernel
theorem dX9_mention_23 : decode cX9_mention 23 = .ok (.getfield 27, 3) := by decide +kernel
theorem dX9_mention_26 : decode cX9_mention 26 = .ok (.aload_n 0, 1) := by decide +kernel
theorem dX9_mention_27 : decode cX9_mention 27 = .ok (.getfield 35, 3) := by decide +kernel
theorem dX9_mention_30 : decode cX9_mention 30 = .ok (.lload_n 1, 1) := by decide +kernel
theorem dX9_mention_31 : decode cX9_mention 31 = .ok (.lastore, 1) := by decide +kernel
theorem dX9_mention_32 : decode cX9_mention 32 = .ok (.aload_n 0, 1) := by decide +kernel
theorem dX9_mention_33 : decode cX9_mention 33 = .ok (.dup, 1) := by decide +kernel
theorem dX9_mention_34 : decode cX9_mention 34 = .ok (.getfield 35, 3) := by decide +kernel
theorem dX9_mention_37 : decode cX9_mention 37 = .ok (.iconst 1, 1) := by decide +kernel
theorem dX9_mention_38 : decode cX9_mention 38 = .ok (.iadd, 1) := by decide +kernel
theorem dX9_mention_39 : decode cX9_mention 39 = .ok (.putfield 35, 3) := by decide +kernel
theorem dX9_mention_42 : decode cX9_mention 42 = .ok (.aload_n 0, 1) := by decide +kernel
theorem dX9_mention_43 : decode cX9_mention 43 = .ok (.getfield 35, 3) := by decide +kernel
theorem dX9_mention_46 : decode cX9_mention 46 = .ok (.iconst 1, 1) := by decide +kernel
theorem dX9_mention_47 : decode cX9_mention 47 = .ok (.isub, 1) := by decide +kernel
theorem dX9_mention_48 : decode cX9_mention 48 = .ok (.ireturn, 1) := by decide +kernel
set_option maxRecDepth 100000 in
theorem ggX9_countIn_X9_sizeOf : GoodIn wsX9_countIn wsX9_sizeOf := goodIn_r _ [5, 6, 7, 13, 14, 15, 16, 17, 18, 19, 20] rfl (by decide +kernel)
set_option maxRecDepth 100000 in
theorem gX9_countIn_X9_sizeOf : GoodIn wsX9_countIn (wsV RX9 48 RX9 yX9_sizeOf wsX9_sizeOf) := goodIn_app (goodIn_of _ (by decide +kernel)) ggX9_countIn_X9_sizeOf
set_option maxRecDepth 100000 in
theorem ggX9_countIn_X9_wordAt : GoodIn wsX9_countIn wsX9_wordAt := goodIn_r _ [11, 12, 7, 13, 14, 15, 16, 17, 18, 19, 20] rfl (by decide +kernel)
set_option maxRecDepth 100000 in
theorem gX9_countIn_X9_wordAt : GoodIn wsX9_countIn (wsV RX9 62 RX9 yX9_wordAt wsX9_wordAt) := goodIn_app (goodIn_of _ (by decide +kernel)) ggX9_countIn_X9_wordAt
theorem dX9_countIn_0 : decode cX9_countIn 0 = .ok (.iconst 0, 1) := by decide +kernel
theorem dX9_countIn_1 : decode cX9_countIn 1 = .ok (.istore 4, 2) := by decide +kernel
theorem dX9_countIn_3 : decode cX9_countIn 3 = .ok (.iload_n 2, 1) := by decide +kernel
theorem dX9_countIn_4 : decode cX9_countIn 4 = .ok (.istore 5, 2) := by decide +kernel
theorem dX9_countIn_6 : decode cX9_countIn 6 = .ok (.iload 5, 2) := by decide +kernel
theorem dX9_countIn_8 : decode cX9_countIn 8 = .ok (.iload_n 3, 1) := by decide +kernel
theorem dX9_countIn_9 : decode cX9_countIn 9 = .ok (.if_icmp .gt 48, 3) := by decide +kernel
theorem dX9_countIn_12 : decode cX9_countIn 12 = .ok (.aload_n 0, 1) := by decide +kernel
theorem dX9_countIn_13 : decode cX9_countIn 13 = .ok (.iload 5, 2) := by decide +kernel
theorem dX9_countIn_15 : decode cX9_countIn 15 = .ok (.invokevirtual 48, 3) := by decide +kernel
theorem dX9_countIn_18 : decode cX9_countIn 18 = .ok (.istore 6, 2) := by decide +kernel
theorem dX9_countIn_20 : decode cX9_countIn 20 = .ok (.iconst 0, 1) := by decide +kernel
theorem dX9_countIn_21 : decode cX9_countIn 21 = .ok (.istore 7, 2) := by decide +kernel
theorem dX9_countIn_23 : decode cX9_countIn 23 = .ok (.iload 7, 2) := by decide +kernel
theorem dX9_countIn_25 : decode cX9_countIn 25 = .ok (.iload 6, 2) := by decide +kernel
theorem dX9_countIn_27 : decode cX9_countIn 27 = .ok (.if_icmp .ge 24, 3) := by decide +kernel
theorem dX9_countIn_30 : decode cX9_countIn 30 = .ok (.aload_n 0, 1) := by decide +kernel
theorem dX9_countIn_31 : decode cX9_countIn 31 = .ok (.iload 5, 2) := by decide +kernel
theorem dX9_countIn_33 : decode cX9_countIn 33 = .ok (.iload 7, 2) := by decide +kernel
theorem dX9_countIn_35 : decode cX9_countIn 35 = .ok (.invokevirtual 62, 3) := by decide +kernel
theorem dX9_countIn_38 : decode cX9_countIn 38 = .ok (.iload_n 1, 1) := by decide +kernel
theorem dX9_countIn_39 : decode cX9_countIn 39 = .ok (.if_icmp .ne 6, 3) := by decide +kernel
theorem dX9_countIn_42 : decode cX9_countIn 42 = .ok (.iinc 4 1, 3) := by decide +kernel
theorem dX9_countIn_45 : decode cX9_countIn 45 = .ok (.iinc 7 1, 3) := by decide +kernel
theorem dX9_countIn_48 : decode cX9_countIn 48 = .ok (.goto (-25), 3) := by decide +kernel
theorem dX9_countIn_51 : decode cX9_countIn 51 = .ok (.iinc 5 1, 3) := by decide +kernel
theorem dX9_countIn_54 : decode cX9_countIn 54 = .ok (.goto (-48), 3) := by decide +kernel
theorem dX9_countIn_57 : decode cX9_countIn 57 = .ok (.iload 4, 2) := by decide +kernel
theorem dX9_countIn_59 : decode cX9_countIn 59 = .ok (.ireturn, 1) := by decide +kernel
set_option maxRecDepth 100000 in
theorem ggX9_tally_X9_sizeOf : GoodIn wsX9_tally wsX9_sizeOf := goodIn_r _ [5, 6, 7, 13, 14, 15, 16, 17, 18, 19, 20] rfl (by decide +kernel)
set_option maxRecDepth 100000 in
theorem gX9_tally_X9_sizeOf : GoodIn wsX9_tally (wsV RX9 48 RX9 yX9_sizeOf wsX9_sizeOf) := goodIn_app (goodIn_of _ (by decide +kernel)) ggX9_tally_X9_sizeOf
set_option maxRecDepth 100000 in
theorem ggX9_tally_X9_wordAt : GoodIn wsX9_tally wsX9_wordAt := goodIn_r _ [11, 12, 7, 13, 14, 15, 16, 17, 18, 19, 20] rfl (by decide +kernel)
set_option maxRecDepth 100000 in
theorem gX9_tally_X9_wordAt : GoodIn wsX9_tally (wsV RX9 62 RX9 yX9_wordAt wsX9_wordAt) := goodIn_app (goodIn_of _ (by decide +kernel)) ggX9_tally_X9_wordAt
theorem dX9_tally_0 : decode cX9_tally 0 = .ok (.iload_n 1, 1) := by decide +kernel
theorem dX9_tally_1 : decode cX9_tally 1 = .ok (.istore 5, 2) := by decide +kernel
theorem dX9_tally_3 : decode cX9_tally 3 = .ok (.iload 5, 2) := by decide +kernel
theorem dX9_tally_5 : decode cX9_tally 5 = .ok (.iload_n 2, 1) := by decide +kernel
theorem dX9_tally_6 : decode cX9_tally 6 = .ok (.if_icmp .gt 50, 3) := by decide +kernel
theorem dX9_tally_9 : decode cX9_tally 9 = .ok (.aload_n 0, 1) := by decide +kernel
theorem dX9_tally_10 : decode cX9_tally 10 = .ok (.iload 5, 2) := by decide +kernel
theorem dX9_tally_12 : decode cX9_tally 12 = .ok (.invokevirtual 48, 3) := by decide +kernel
theorem dX9_tally_15 : decode cX9_tally 15 = .ok (.istore 6, 2) := by decide +kernel
theorem dX9_tally_17 : decode cX9_tally 17 = .ok (.iconst 0, 1) := by decide +kernel
theorem dX9_tally_18 : decode cX9_tally 18 = .ok (.istore 7, 2) := by decide +kernel
theorem dX9_tally_20 : decode cX9_tally 20 = .ok (.iload 7, 2) := by decide +kernel
theorem dX9_tally_22 : decode cX9_tally 22 = .ok (.iload 6, 2) := by decide +kernel
theorem dX9_tally_24 : decode cX9_tally 24 = .ok (.if_icmp .ge 26, 3) := by decide +kernel
theorem dX9_tally_27 : decode cX9_tally 27 = .ok (.aload_n 3, 1) := by decide +kernel
theorem dX9_tally_28 : decode cX9_tally 28 = .ok (.iload 4, 2) := by decide +kernel
theorem dX9_tally_30 : decode cX9_tally 30 = .ok (.aload_n 0, 1) := by decide +kernel
theorem dX9_tally_31 : decode cX9_tally 31 = .ok (.iload 5, 2) := by decide +kernel
theorem dX9_tally_33 : decode cX9_tally 33 = .ok (.iload 7, 2) := by decide +kernel
theorem dX9_tally_35 : decode cX9_tally 35 = .ok (.invokevirtual 62, 3) := by decide +kernel
theorem dX9_tally_38 : decode cX9_tally 38 = .ok (.iadd, 1) := by decide +kernel
theorem dX9_tally_39 : decode cX9_tally 39 = .ok (.dup2, 1) := by decide +kernel
theorem dX9_tally_40 : decode cX9_tally 40 = .ok (.iaload, 1) := by decide +kernel
theorem dX9_tally_41 : decode cX9_tally 41 = .ok (.iconst 1, 1) := by decide +kernel
theorem dX9_tally_42 : decode cX9_tally 42 = .ok (.iadd, 1) := by decide +kernel
theorem dX9_tally_43 : decode cX9_tally 43 = .ok (.iastore, 1) := by decide +kernel
theorem dX9_tally_44 : decode cX9_tally 44 = .ok (.iinc 7 1, 3) := by decide +kernel
theorem dX9_tally_47 : decode cX9_tally 47 = .ok (.goto (-27), 3) := by decide +kernel
theorem dX9_tally_50 : decode cX9_tally 50 = .ok (.iinc 5 1, 3) := by decide +kernel
theorem dX9_tally_53 : decode cX9_tally 53 = .ok (.goto (-50), 3) := by decide +kernel
theorem dX9_tally_56 : decode cX9_tally 56 = .ok (.return_, 1) := by decide +kernel
theorem dJ7_fill_53178_0 : decode cJ7_fill_53178 0 = .ok (.iconst 0, 1) := by decide +kernel
theorem dJ7_fill_53178_1 : decode cJ7_fill_53178 1 = .ok (.istore_n 2, 1) := by decide +kernel
theorem dJ7_fill_53178_2 : decode cJ7_fill_53178 2 = .ok (.aload_n 0, 1) := by decide +kernel
theorem dJ7_fill_53178_3 : decode cJ7_fill_53178 3 = .ok (.arraylength, 1) := by decide +kernel
theorem dJ7_fill_53178_4 : decode cJ7_fill_53178 4 = .ok (.istore_n 3, 1) := by decide +kernel
theorem dJ7_fill_53178_5 : decode cJ7_fill_53178 5 = .ok (.iload_n 2, 1) := by decide +kernel
theorem dJ7_fill_53178_6 : decode cJ7_fill_53178 6 = .ok (.iload_n 3, 1) := by decide +kernel
theorem dJ7_fill_53178_7 : decode cJ7_fill_53178 7 = .ok (.if_icmp .ge 13, 3) := by decide +kernel
theorem dJ7_fill_53178_10 : decode cJ7_fill_53178 10 = .ok (.aload_n 0, 1) := by decide +kernel
theorem dJ7_fill_53178_11 : decode cJ7_fill_53178 11 = .ok (.iload_n 2, 1) := by decide +kernel
theorem dJ7_fill_53178_12 : decode cJ7_fill_53178 12 = .ok (.iload_n 1, 1) := by decide +kernel
theorem dJ7_fill_53178_13 : decode cJ7_fill_53178 13 = .ok (.iastore, 1) := by decide +kernel
theorem dJ7_fill_53178_14 : decode cJ7_fill_53178 14 = .ok (.iinc 2 1, 3) := by decide +kernel
theorem dJ7_fill_53178_17 : decode cJ7_fill_53178 17 = .ok (.goto (-12), 3) := by decide +kernel
theorem dJ7_fill_53178_20 : decode cJ7_fill_53178 20 = .ok (.return_, 1) := by decide +kernel
