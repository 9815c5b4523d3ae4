set_option maxRecDepth 100000 in
theorem ggX11_init_X11_begins : GoodIn wsX11_init wsX11_begins := goodIn_r _ [27, 6, 28, 29, 30, 31, 32, 33, 38, 39, 40, 41, 42, 43, 44, 45, 46, 47, 48, 49, 50, 51, 52, 53, 54, 55, 56, 57, 58, 59, 60, 61, 62, 63, 64] rfl (by decide +kernel)
set_option maxRecDepth 100000 in
theorem gX11_init_X11_begins : GoodIn wsX11_init (wsV RX11 61 RX11 yX11_begins wsX11_begins) := goodIn_app (goodIn_of _ (by decide +kernel)) ggX11_init_X11_begins
set_option maxRecDepth 100000 in
theorem ggX11_init_X11_becomes : GoodIn wsX11_init wsX11_becomes := goodIn_r _ [37, 5, 6, 38, 39, 40, 41, 42, 43, 44, 45, 46, 47, 48, 49, 50, 51, 52, 53, 54, 55, 56, 57, 58, 59, 60, 61, 62, 63, 64] rfl (by decide +kernel)
set_option maxRecDepth 100000 in
theorem gX11_init_X11_becomes : GoodIn wsX11_init (wsV RX11 64 RX11 yX11_becomes wsX11_becomes) := goodIn_app (goodIn_of _ (by decide +kernel)) ggX11_init_X11_becomes
theorem dX11_init_0 : decode cX11_init 0 = .ok (.aload_n 0, 1) := by decide +kernel
theorem dX11_init_1 : decode cX11_init 1 = .ok (.invokespecial 3, 3) := by decide +kernel
theorem dX11_init_4 : decode cX11_init 4 = .ok (.aload_n 0, 1) := by decide +kernel
theorem dX11_init_5 : decode cX11_init 5 = .ok (.sipush 499, 3) := by decide +kernel
theorem dX11_init_8 : decode cX11_init 8 = .ok (.newarray .long, 2) := by decide +kernel
theorem dX11_init_10 : decode cX11_init 10 = .ok (.putfield 9, 3) := by decide +kernel
theorem dX11_init_13 : decode cX11_init 13 = .ok (.aload_n 0, 1) := by decide +kernel
theorem dX11_init_14 : decode cX11_init 14 = .ok (.sipush 499, 3) := by decide +kernel
theorem dX11_init_17 : decode cX11_init 17 = .ok (.newarray .long, 2) := by decide +kernel
theorem dX11_init_19 : decode cX11_init 19 = .ok (.putfield 13, 3) := by decide +kernel
theorem dX11_init_22 : decode cX11_init 22 = .ok (.aload_n 0, 1) := by decide +kernel
theorem dX11_init_23 : decode cX11_init 23 = .ok (.sipush 3992, 3) := by decide +kernel
theorem dX11_init_26 : decode cX11_init 26 = .ok (.newarray .long, 2) := by decide +kernel
theorem dX11_init_28 : decode cX11_init 28 = .ok (.putfield 16, 3) := by decide +kernel
theorem dX11_init_31 : decode cX11_init 31 = .ok (.aload_n 0, 1) := by decide +kernel
theorem dX11_init_32 : decode cX11_init 32 = .ok (.sipush 900, 3) := by decide +kernel
theorem dX11_init_35 : decode cX11_init 35 = .ok (.newarray .int, 2) := by decide +kernel
theorem dX11_init_37 : decode cX11_init 37 = .ok (.putfield 19, 3) := by decide +kernel
theorem dX11_init_40 : decode cX11_init 40 = .ok (.aload_n 0, 1) := by decide +kernel
theorem dX11_init_41 : decode cX11_init 41 = .ok (.iconst (-1), 1) := by decide +kernel
theorem dX11_init_42 : decode cX11_init 42 = .ok (.putfield 23, 3) := by decide +kernel
theorem dX11_init_45 : decode cX11_init 45 = .ok (.aload_n 0, 1) := by decide +kernel
theorem dX11_init_46 : decode cX11_init 46 = .ok (.bipush 33, 2) := by decide +kernel
theorem dX11_init_48 : decode cX11_init 48 = .ok (.newarray .int, 2) := by decide +kernel
theorem dX11_init_50 : decode cX11_init 50 = .ok (.putfield 27, 3) := by decide +kernel
theorem dX11_init_53 : decode cX11_init 53 = .ok (.aload_n 0, 1) := by decide +kernel
theorem dX11_init_54 : decode cX11_init 54 = .ok (.bipush 33, 2) := by decide +kernel
theorem dX11_init_56 : decode cX11_init 56 = .ok (.newarray .int, 2) := by decide +kernel
theorem dX11_init_58 : decode cX11_init 58 = .ok (.putfield 30, 3) := by decide +kernel
theorem dX11_init_61 : decode cX11_init 61 = .ok (.aload_n 0, 1) := by decide +kernel
theorem dX11_init_62 : decode cX11_init 62 = .ok (.bipush 33, 2) := by decide +kernel
theorem dX11_init_64 : decode cX11_init 64 = .ok (.newarray .int, 2) := by decide +kernel
theorem dX11_init_66 : decode cX11_init 66 = .ok (.putfield 33, 3) := by decide +kernel
theorem dX11_init_69 : decode cX11_init 69 = .ok (.aload_n 0, 1) := by decide +kernel
theorem dX11_init_70 : decode cX11_init 70 = .ok (.bipush 32, 2) := by decide +kernel
theorem dX11_init_72 : decode cX11_init 72 = .ok (.newarray .int, 2) := by decide +kernel
theorem dX11_init_74 : decode cX11_init 74 = .ok (.putfield 36, 3) := by decide +kernel
theorem dX11_init_77 : decode cX11_init 77 = .ok (.aload_n 0, 1) := by decide +kernel
theorem dX11_init_78 : decode cX11_init 78 = .ok (.bipush 33, 2) := by decide +kernel
theorem dX11_init_80 : decode cX11_init 80 = .ok (.newarray .long, 2) := by decide +kernel
theorem dX11_init_82 : decode cX11_init 82 = .ok (.putfield 39, 3) := by decide +kernel
theorem dX11_init_85 : decode cX11_init 85 = .ok (.aload_n 0, 1) := by decide +kernel
theorem dX11_init_86 : decode cX11_init 86 = .ok (.iconst (-1), 1) := by decide +kernel
theorem dX11_init_87 : decode cX11_init 87 = .ok (.putfield 42, 3) := by decide +kernel
theorem dX11_init_90 : decode cX11_init 90 = .ok (.aload_n 0, 1) := by decide +kernel
theorem dX11_init_91 : decode cX11_init 91 = .ok (.iconst (-1), 1) := by decide +kernel
theorem dX11_init_92 : decode cX11_init 92 = .ok (.putfield 45, 3) := by decide +kernel
theorem dX11_init_95 : decode cX11_init 95 = .ok (.aload_n 0, 1) := by decide +kernel
theorem dX11_init_96 : decode cX11_init 96 = .ok (.sipush 160, 3) := by decide +kernel
theorem dX11_init_99 : decode cX11_init 99 = .ok (.newarray .int, 2) := by decide +kernel
theorem dX11_init_101 : decode cX11_init 101 = .ok (.putfield 48, 3) := by decide +kernel
theorem dX11_init_104 : decode cX11_init 104 = .ok (.aload_n 0, 1) := by decide +kernel
theorem dX11_init_105 : decode cX11_init 105 = .ok (.iconst 5, 1) := by decide +kernel
theorem dX11_init_106 : decode cX11_init 106 = .ok (.newarray .int, 2) := by decide +kernel
theorem dX11_init_108 : decode cX11_init 108 = .ok (.putfield 51, 3) := by decide +kernel
theorem dX11_init_111 : decode cX11_init 111 = .ok (.aload_n 0, 1) := by decide +kernel
theorem dX11_init_112 : decode cX11_init 112 = .ok (.bipush 32, 2) := by decide +kernel
theorem dX11_init_114 : decode cX11_init 114 = .ok (.newarray .boolean, 2) := by decide +kernel
theorem dX11_init_116 : decode cX11_init 116 = .ok (.putfield 54, 3) := by decide +kernel
theorem dX11_init_119 : decode cX11_init 119 = .ok (.aload_n 0, 1) := by decide +kernel
theorem dX11_init_120 : decode cX11_init 120 = .ok (.sipush 1200, 3) := by decide +kernel
theorem dX11_init_123 : decode cX11_init 123 = .ok (.newarray .int, 2) := by decide +kernel
theorem dX11_init_125 : decode cX11_init 125 = .ok (.putfield 58, 3) := by decide +kernel
theorem dX11_init_128 : decode cX11_init 128 = .ok (.aload_n 0, 1) := by decide +kernel
theorem dX11_init_129 : decode cX11_init 129 = .ok (.invokevirtual 61, 3) := by decide +kernel
theorem dX11_init_132 : decode cX11_init 132 = .ok (.aload_n 0, 1) := by decide +kernel
theorem dX11_init_133 : decode cX11_init 133 = .ok (.invokevirtual 64, 3) := by decide +kernel
theorem dX11_init_136 : decode cX11_init 136 = .ok (.return_, 1) := by decide +kernel
theorem dX11_begins_0 : decode cX11_begins 0 = .ok (.iconst 0, 1) := by decide +kernel
theorem dX11_begins_1 : decode cX11_begins 1 = .ok (.istore_n 1, 1) := by decide +kernel
theorem dX11_begins_2 : decode cX11_begins 2 = .ok (.iload_n 1, 1) := by decide +kernel
theorem dX11_begins_3 : decode cX11_begins 3 = .ok (.sipush 499, 3) := by decide +kernel
theorem dX11_begins_6 : decode cX11_begins 6 = .ok (.if_icmp .ge 16, 3) := by decide +kernel
theorem dX11_begins_9 : decode cX11_begins 9 = .ok (.aload_n 0, 1) := by decide +kernel
theorem dX11_begins_10 : decode cX11_begins 10 = .ok (.getfield 13, 3) := by decide +kernel
theorem dX11_begins_13 : decode cX11_begins 13 = .ok (.iload_n 1, 1) := by decide +kernel
theorem dX11_begins_14 : decode cX11_begins 14 = .ok (.lconst 0, 1) := by decide +kernel
theorem dX11_begins_15 : decode cX11_begins 15 = .ok (.lastore, 1) := by decide +kernel
theorem dX11_begins_16 : decode cX11_begins 16 = .ok (.iinc 1 1, 3) := by decide +kernel
theorem dX11_begins_19 : decode cX11_begins 19 = .ok (.goto (-17), 3) := by decide +kernel
theorem dX11_begins_22 : decode cX11_begins 22 = .ok (.aload_n 0, 1) := by decide +kernel
theorem dX11_begins_23 : decode cX11_begins 23 = .ok (.getfield 13, 3) := by decide +kernel
theorem dX11_begins_26 : decode cX11_begins 26 = .ok (.iconst 0, 1) := by decide +kernel
theorem dX11_begins_27 : decode cX11_begins 27 = .ok (.ldc2_w 67, 3) := by decide +kernel
theorem dX11_begins_30 : decode cX11_begins 30 = .ok (.lastore, 1) := by decide +kernel
theorem dX11_begins_31 : decode cX11_begins 31 = .ok (.aload_n 0, 1) := by decide +kernel
theorem dX11_begins_32 : decode cX11_begins 32 = .ok (.getfield 13, 3) := by decide +kernel
theorem dX11_begins_35 : decode cX11_begins 35 = .ok (.iconst 1, 1) := by decide +kernel
theorem dX11_begins_36 : decode cX11_begins 36 = .ok (.ldc2_w 69, 3) := by decide +kernel
theorem dX11_begins_39 : decode cX11_begins 39 = .ok (.lastore, 1) := by decide +kernel
theorem dX11_begins_40 : decode cX11_begins 40 = .ok (.aload_n 0, 1) := by decide +kernel
theorem dX11_begins_41 : decode cX11_begins 41 = .ok (.getfield 13, 3) := by decide +kernel
theorem dX11_begins_44 : decode cX11_begins 44 = .ok (.iconst 2, 1) := by decide +kernel
theorem dX11_begins_45 : decode cX11_begins 45 = .ok (.ldc2_w 71, 3) := by decide +kernel
theorem dX11_begins_48 : decode cX11_begins 48 = .ok (.lastore, 1) := by decide +kernel
theorem dX11_begins_49 : decode cX11_begins 49 = .ok (.aload_n 0, 1) := by decide +kernel
theorem dX11_begins_50 : decode cX11_begins 50 = .ok (.getfield 13, 3) := by decide +kernel
theorem dX11_begins_53 : decode cX11_begins 53 = .ok (.iconst 3, 1) := by decide +kernel
theorem dX11_begins_54 : decode cX11_begins 54 = .ok (.ldc2_w 73, 3) := by decide +kernel
theorem dX11_begins_57 : decode cX11_begins 57 = .ok (.lastore, 1) := by decide +kernel
theorem dX11_begins_58 : decode cX11_begins 58 = .ok (.aload_n 0, 1) := by decide +kernel
theorem dX11_begins_59 : decode cX11_begins 59 = .ok (.getfield 13, 3) := by decide +kernel
theorem dX11_begins_62 : decode cX11_begins 62 = .ok (.iconst 4, 1) := by decide +kernel
theorem dX11_begins_63 : decode cX11_begins 63 = .ok (.ldc2_w 75, 3) := by decide +kernel
theorem dX11_begins_66 : decode cX11_begins 66 = .ok (.lastore, 1) := by decide +kernel
theorem dX11_begins_67 : decode cX11_begins 67 = .ok (.aload_n 0, 1) := by decide +kernel
theorem dX11_begins_68 : decode cX11_begins 68 = .ok (.getfield 13, 3) := by decide +kernel
theorem dX11_begins_71 : decode cX11_begins 71 = .ok (.iconst 5, 1) := by decide +kernel
theorem dX11_begins_72 : decode cX11_begins 72 = .ok (.ldc2_w 77, 3) := by decide +kernel
theorem dX11_begins_75 : decode cX11_begins 75 = .ok (.lastore, 1) := by decide +kernel
theorem dX11_begins_76 : decode cX11_begins 76 = .ok (.return_, 1) := by decide +kernel
theorem dX11_becomes_0 : decode cX11_becomes 0 = .ok (.iconst 0, 1) := by decide +kernel
theorem dX11_becomes_1 : decode cX11_becomes 1 = .ok (.istore_n 1, 1) := by decide +kernel
theorem dX11_becomes_2 : decode cX11_becomes 2 = .ok (.iload_n 1, 1) := by decide +kernel
theorem dX11_becomes_3 : decode cX11_becomes 3 = .ok (.sipush 499, 3) := by decide +kernel
theorem dX11_becomes_6 : decode cX11_becomes 6 = .ok (.if_icmp .ge 21, 3) := by decide +kernel
theorem dX11_becomes_9 : decode cX11_becomes 9 = .ok (.aload_n 0, 1) := by decide +kernel
theorem dX11_becomes_10 : decode cX11_becomes 10 = .ok (.getfield 9, 3) := by decide +kernel
theorem dX11_becomes_13 : decode cX11_becomes 13 = .ok (.iload_n 1, 1) := by decide +kernel
theorem dX11_becomes_14 : decode cX11_becomes 14 = .ok (.aload_n 0, 1) := by decide +kernel
theorem dX11_becomes_15 : decode cX11_becomes 15 = .ok (.getfield 13, 3) := by decide +kernel
theorem dX11_becomes_18 : decode cX11_becomes 18 = .ok (.iload_n 1, 1) := by decide +kernel
theorem dX11_becomes_19 : decode cX11_becomes 19 = .ok (.laload, 1) := by decide +kernel
theorem dX11_becomes_20 : decode cX11_becomes 20 = .ok (.lastore, 1) := by decide +kernel
theorem dX11_becomes_21 : decode cX11_becomes 21 = .ok (.iinc 1 1, 3) := by decide +kernel
theorem dX11_becomes_24 : decode cX11_becomes 24 = .ok (.goto (-22), 3) := by decide +kernel
theorem dX11_becomes_27 : decode cX11_becomes 27 = .ok (.return_, 1) := by decide +kernel
theorem dX11_thrown_0 : decode cX11_thrown 0 = .ok (.aload_n 0, 1) := by decide +kernel
theorem dX11_thrown_1 : decode cX11_thrown 1 = .ok (.getfield 79, 3) := by decide +kernel
theorem dX11_thrown_4 : decode cX11_thrown 4 = .ok (.ireturn, 1) := by decide +kernel
theorem dX11_isIn_0 : decode cX11_isIn 0 = .ok (.lload_n 0, 1) := by decide +kernel
theorem dX11_isIn_1 : decode cX11_isIn 1 = .ok (.lload_n 2, 1) := by decide +kernel
theorem dX11_isIn_2 : decode cX11_isIn 2 = .ok (.lcmp, 1) := by decide +kernel
theorem dX11_isIn_3 : decode cX11_isIn 3 = .ok (.ifCond .lt 14, 3) := by decide +kernel
theorem dX11_isIn_6 : decode cX11_isIn 6 = .ok (.lload_n 0, 1) := by decide +kernel
theorem dX11_isIn_7 : decode cX11_isIn 7 = .ok (.lload 4, 2) := by decide +kernel
theorem dX11_isIn_9 : decode cX11_isIn 9 = .ok (.lcmp, 1) := by decide +kernel
theorem dX11_isIn_10 : decode cX11_isIn 10 = .ok (.ifCond .gt 7, 3) := by decide +kernel
theorem dX11_isIn_13 : decode cX11_isIn 13 = .ok (.iconst 1, 1) := by decide +kernel
theorem dX11_isIn_14 : decode cX11_isIn 14 = .ok (.goto 4, 3) := by decide +kernel
theorem dX11_isIn_17 : decode cX11_isIn 17 = .ok (.iconst 0, 1) := by decide +kernel
theorem dX11_isIn_18 : decode cX11_isIn 18 = .ok (.ireturn, 1) := by decide +kernel
theorem dX11_keeps_0 : decode cX11_keeps 0 = .ok (.aload_n 0, 1) := by decide +kernel
theorem dX11_keeps_1 : decode cX11_keeps 1 = .ok (.getfield 82, 3) := by decide +kernel
theorem dX11_keeps_4 : decode cX11_keeps 4 = .ok (.bipush 8, 2) := by decide +kernel
theorem dX11_keeps_6 : decode cX11_keeps 6 = .ok (.if_icmp .ne 44, 3) := by decide +kernel
theorem dX11_keeps_9 : decode cX11_keeps 9 = .ok (.iconst 0, 1) := by decide +kernel
theorem dX11_keeps_10 : decode cX11_keeps 10 = .ok (.istore_n 1, 1) := by decide +kernel
theorem dX11_keeps_11 : decode cX11_keeps 11 = .ok (.iload_n 1, 1) := by decide +kernel
theorem dX11_keeps_12 : decode cX11_keeps 12 = .ok (.sipush 3493, 3) := by decide +kernel
theorem dX11_keeps_15 : decode cX11_keeps 15 = .ok (.if_icmp .ge 25, 3) := by decide +kernel
theorem dX11_keeps_18 : decode cX11_keeps 18 = .ok (.aload_n 0, 1) := by decide +kernel
theorem dX11_keeps_19 : decode cX11_keeps 19 = .ok (.getfield 16, 3) := by decide +kernel
theorem dX11_keeps_22 : decode cX11_keeps 22 = .ok (.iload_n 1, 1) := by decide +kernel
theorem dX11_keeps_23 : decode cX11_keeps 23 = .ok (.aload_n 0, 1) := by decide +kernel
theorem dX11_keeps_24 : decode cX11_keeps 24 = .ok (.getfield 16, 3) := by decide +kernel
theorem dX11_keeps_27 : decode cX11_keeps 27 = .ok (.iload_n 1, 1) := by decide +kernel
theorem dX11_keeps_28 : decode cX11_keeps 28 = .ok (.sipush 499, 3) := by decide +kernel
theorem dX11_keeps_31 : decode cX11_keeps 31 = .ok (.iadd, 1) := by decide +kernel
theorem dX11_keeps_32 : decode cX11_keeps 32 = .ok (.laload, 1) := by decide +kernel
theorem dX11_keeps_33 : decode cX11_keeps 33 = .ok (.lastore, 1) := by decide +kernel
theorem dX11_keeps_34 : decode cX11_keeps 34 = .ok (.iinc 1 1, 3) := by decide +kernel
theorem dX11_keeps_37 : decode cX11_keeps 37 = .ok (.goto (-26), 3) := by decide +kernel
theorem dX11_keeps_40 : decode cX11_keeps 40 = .ok (.aload_n 0, 1) := by decide +kernel
theorem dX11_keeps_41 : decode cX11_keeps 41 = .ok (.dup, 1) := by decide +kernel
theorem dX11_keeps_42 : decode cX11_keeps 42 = .ok (.getfield 82, 3) := by decide +kernel
theorem dX11_keeps_45 : decode cX11_keeps 45 = .ok (.iconst 1, 1) := by decide +kernel
theorem dX11_keeps_46 : decode cX11_keeps 46 = .ok (.isub, 1) := by decide +kernel
theorem dX11_keeps_47 : decode cX11_keeps 47 = .ok (.putfield 82, 3) := by decide +kernel
theorem dX11_keeps_50 : decode cX11_keeps 50 = .ok (.iconst 0, 1) := by decide +kernel
theorem dX11_keeps_51 : decode cX11_keeps 51 = .ok (.istore_n 1, 1) := by decide +kernel
theorem dX11_keeps_52 : decode cX11_keeps 52 = .ok (.iload_n 1, 1) := by decide +kernel
theorem dX11_keeps_53 : decode cX11_keeps 53 = .ok (.sipush 499, 3) := by decide +kernel
theorem dX11_keeps_56 : decode cX11_keeps 56 = .ok (.if_icmp .ge 30, 3) := by decide +kernel
theorem dX11_keeps_59 : decode cX11_keeps 59 = .ok (.aload_n 0, 1) := by decide +kernel
theorem dX11_keeps_60 : decode cX11_keeps 60 = .ok (.getfield 16, 3) := by decide +kernel
theorem dX11_keeps_63 : decode cX11_keeps 63 = .ok (.sipush 499, 3) := by decide +kernel
theorem dX11_keeps_66 : decode cX11_keeps 66 = .ok (.aload_n 0, 1) := by decide +kernel
theorem dX11_keeps_67 : decode cX11_keeps 67 = .ok (.getfield 82, 3) := by decide +kernel
theorem dX11_keeps_70 : decode cX11_keeps 70 = .ok (.imul, 1) := by decide +kernel
theorem dX11_keeps_71 : decode cX11_keeps 71 = .ok (.iload_n 1, 1) := by decide +kernel
theorem dX11_keeps_72 : decode cX11_keeps 72 = .ok (.iadd, 1) := by decide +kernel
theorem dX11_keeps_73 : decode cX11_keeps 73 = .ok (.aload_n 0, 1) := by decide +kernel
theorem dX11_keeps_74 : decode cX11_keeps 74 = .ok (.getfield 9, 3) := by decide +kernel
theorem dX11_keeps_77 : decode cX11_keeps 77 = .ok (.iload_n 1, 1) := by decide +kernel
theorem dX11_keeps_78 : decode cX11_keeps 78 = .ok (.laload, 1) := by decide +kernel
theorem dX11_keeps_79 : decode cX11_keeps 79 = .ok (.lastore, 1) := by decide +kernel
theorem dX11_keeps_80 : decode cX11_keeps 80 = .ok (.iinc 1 1, 3) := by decide +kernel
theorem dX11_keeps_83 : decode cX11_keeps 83 = .ok (.goto (-31), 3) := by decide +kernel
theorem dX11_keeps_86 : decode cX11_keeps 86 = .ok (.aload_n 0, 1) := by decide +kernel
theorem dX11_keeps_87 : decode cX11_keeps 87 = .ok (.dup, 1) := by decide +kernel
theorem dX11_keeps_88 : decode cX11_keeps 88 = .ok (.getfield 82, 3) := by decide +kernel
theorem dX11_keeps_91 : decode cX11_keeps 91 = .ok (.iconst 1, 1) := by decide +kernel
theorem dX11_keeps_92 : decode cX11_keeps 92 = .ok (.iadd, 1) := by decide +kernel
theorem dX11_keeps_93 : decode cX11_keeps 93 = .ok (.putfield 82, 3) := by decide +kernel
theorem dX11_keeps_96 : decode cX11_keeps 96 = .ok (.return_, 1) := by decide +kernel
theorem dX11_undo_0 : decode cX11_undo 0 = .ok (.aload_n 0, 1) := by decide +kernel
theorem dX11_undo_1 : decode cX11_undo 1 = .ok (.aload_n 0, 1) := by decide +kernel
theorem dX11_undo_2 : decode cX11_undo 2 = .ok (.getfield 82, 3) := by decide +kernel
theorem dX11_undo_5 : decode cX11_undo 5 = .ok (.ifCond .ne 7, 3) := by decide +kernel
theorem dX11_undo_8 : decode cX11_undo 8 = .ok (.iconst 1, 1) := by decide +kernel
theorem dX11_undo_9 : decode cX11_undo 9 = .ok (.goto 4, 3) := by decide +kernel
theorem dX11_undo_12 : decode cX11_undo 12 = .ok (.iconst 0, 1) := by decide +kernel
theorem dX11_undo_13 : decode cX11_undo 13 = .ok (.putfield 79, 3) := by decide +kernel
theorem dX11_undo_16 : decode cX11_undo 16 = .ok (.aload_n 0, 1) := by decide +kernel
theorem dX11_undo_17 : decode cX11_undo 17 = .ok (.getfield 79, 3) := by decide +kernel
theorem dX11_undo_20 : decode cX11_undo 20 = .ok (.ifCond .le 5, 3) := by decide +kernel
theorem dX11_undo_23 : decode cX11_undo 23 = .ok (.iconst 0, 1) := by decide +kernel
theorem dX11_undo_24 : decode cX11_undo 24 = .ok (.ireturn, 1) := by decide +kernel
theorem dX11_undo_25 : decode cX11_undo 25 = .ok (.aload_n 0, 1) := by decide +kernel
theorem dX11_undo_26 : decode cX11_undo 26 = .ok (.dup, 1) := by decide +kernel
theorem dX11_undo_27 : decode cX11_undo 27 = .ok (.getfield 82, 3) := by decide +kernel
theorem dX11_undo_30 : decode cX11_undo 30 = .ok (.iconst 1, 1) := by decide +kernel
theorem dX11_undo_31 : decode cX11_undo 31 = .ok (.isub, 1) := by decide +kernel
theorem dX11_undo_32 : decode cX11_undo 32 = .ok (.putfield 82, 3) := by decide +kernel
theorem dX11_undo_35 : decode cX11_undo 35 = .ok (.iconst 0, 1) := by decide +kernel
theorem dX11_undo_36 : decode cX11_undo 36 = .ok (.istore_n 1, 1) := by decide +kernel
theorem dX11_undo_37 : decode cX11_undo 37 = .ok (.iload_n 1, 1) := by decide +kernel
theorem dX11_undo_38 : decode cX11_undo 38 = .ok (.sipush 499, 3) := by decide +kernel
theorem dX11_undo_41 : decode cX11_undo 41 = .ok (.if_icmp .ge 30, 3) := by decide +kernel
theorem dX11_undo_44 : decode cX11_undo 44 = .ok (.aload_n 0, 1) := by decide +kernel
theorem dX11_undo_45 : decode cX11_undo 45 = .ok (.getfield 9, 3) := by decide +kernel
theorem dX11_undo_48 : decode cX11_undo 48 = .ok (.iload_n 1, 1) := by decide +kernel
theorem dX11_undo_49 : decode cX11_undo 49 = .ok (.aload_n 0, 1) := by decide +kernel
theorem dX11_undo_50 : decode cX11_undo 50 = .ok (.getfield 16, 3) := by decide +kernel
theorem dX11_undo_53 : decode cX11_undo 53 = .ok (.sipush 499, 3) := by decide +kernel
theorem dX11_undo_56 : decode cX11_undo 56 = .ok (.aload_n 0, 1) := by decide +kernel
theorem dX11_undo_57 : decode cX11_undo 57 = .ok (.getfield 82, 3) := by decide +kernel
theorem dX11_undo_60 : decode cX11_undo 60 = .ok (.imul, 1) := by decide +kernel
theorem dX11_undo_61 : decode cX11_undo 61 = .ok (.iload_n 1, 1) := by decide +kernel
theorem dX11_undo_62 : decode cX11_undo 62 = .ok (.iadd, 1) := by decide +kernel
theorem dX11_undo_63 : decode cX11_undo 63 = .ok (.laload, 1) := by decide +kernel
theorem dX11_undo_64 : decode cX11_undo 64 = .ok (.lastore, 1) := by decide +kernel
theorem dX11_undo_65 : decode cX11_undo 65 = .ok (.iinc 1 1, 3) := by decide +kernel
theorem dX11_undo_68 : decode cX11_undo 68 = .ok (.goto (-31), 3) := by decide +kernel
theorem dX11_undo_71 : decode cX11_undo 71 = .ok (.aload_n 0, 1) := by decide +kernel
theorem dX11_undo_72 : decode cX11_undo 72 = .ok (.getfield 82, 3) := by decide +kernel
theorem dX11_undo_75 : decode cX11_undo 75 = .ok (.ireturn, 1) := by decide +kernel
theorem dX11_low_0 : decode cX11_low 0 = .ok (.iload_n 0, 1) := by decide +kernel
theorem dX11_low_1 : decode cX11_low 1 = .ok (.iconst 3, 1) := by decide +kernel
theorem dX11_low_2 : decode cX11_low 2 = .ok (.if_icmp .ge 7, 3) := by decide +kernel
theorem dX11_low_5 : decode cX11_low 5 = .ok (.iconst 1, 1) := by decide +kernel
theorem dX11_low_6 : decode cX11_low 6 = .ok (.goto 4, 3) := by decide +kernel
theorem dX11_low_9 : decode cX11_low 9 = .ok (.iconst 0, 1) := by decide +kernel
theorem dX11_low_10 : decode cX11_low 10 = .ok (.ireturn, 1) := by decide +kernel
theorem dX11_high_0 : decode cX11_high 0 = .ok (.iload_n 0, 1) := by decide +kernel
theorem dX11_high_1 : decode cX11_high 1 = .ok (.tableswitch 35 2 4 #[27, 29, 32], 27) := by decide +kernel
theorem dX11_high_28 : decode cX11_high 28 = .ok (.iconst 5, 1) := by decide +kernel
theorem dX11_high_29 : decode cX11_high 29 = .ok (.ireturn, 1) := by decide +kernel
theorem dX11_high_30 : decode cX11_high 30 = .ok (.bipush 100, 2) := by decide +kernel
theorem dX11_high_32 : decode cX11_high 32 = .ok (.ireturn, 1) := by decide +kernel
theorem dX11_high_33 : decode cX11_high 33 = .ok (.bipush 99, 2) := by decide +kernel
theorem dX11_high_35 : decode cX11_high 35 = .ok (.ireturn, 1) := by decide +kernel
theorem dX11_high_36 : decode cX11_high 36 = .ok (.sipush 9999, 3) := by decide +kernel
theorem dX11_high_39 : decode cX11_high 39 = .ok (.ireturn, 1) := by decide +kernel
theorem dX11_append_0 : decode cX11_append 0 = .ok (.aload_n 0, 1) := by decide +kernel
theorem dX11_append_1 : decode cX11_append 1 = .ok (.aload_n 0, 1) := by decide +kernel
theorem dX11_append_2 : decode cX11_append 2 = .ok (.getfield 85, 3) := by decide +kernel
theorem dX11_append_5 : decode cX11_append 5 = .ok (.bipush 20, 2) := by decide +kernel
theorem dX11_append_7 : decode cX11_append 7 = .ok (.iadd, 1) := by decide +kernel
theorem dX11_append_8 : decode cX11_append 8 = .ok (.sipush 900, 3) := by decide +kernel
theorem dX11_append_11 : decode cX11_append 11 = .ok (.if_icmp .le 7, 3) := by decide +kernel
theorem dX11_append_14 : decode cX11_append 14 = .ok (.iconst 1, 1) := by decide +kernel
theorem dX11_append_15 : decode cX11_append 15 = .ok (.goto 4, 3) := by decide +kernel
theorem dX11_append_18 : decode cX11_append 18 = .ok (.iconst 0, 1) := by decide +kernel
theorem dX11_append_19 : decode cX11_append 19 = .ok (.putfield 79, 3) := by decide +kernel
theorem dX11_append_22 : decode cX11_append 22 = .ok (.aload_n 0, 1) := by decide +kernel
theorem dX11_append_23 : decode cX11_append 23 = .ok (.getfield 79, 3) := by decide +kernel
theorem dX11_append_26 : decode cX11_append 26 = .ok (.ifCond .le 5, 3) := by decide +kernel
theorem dX11_append_29 : decode cX11_append 29 = .ok (.iconst 0, 1) := by decide +kernel
theorem dX11_append_30 : decode cX11_append 30 = .ok (.ireturn, 1) := by decide +kernel
theorem dX11_append_31 : decode cX11_append 31 = .ok (.iconst 0, 1) := by decide +kernel
theorem dX11_append_32 : decode cX11_append 32 = .ok (.istore 6, 2) := by decide +kernel
theorem dX11_append_34 : decode cX11_append 34 = .ok (.iload 6, 2) := by decide +kernel
theorem dX11_append_36 : decode cX11_append 36 = .ok (.bipush 20, 2) := by decide +kernel
theorem dX11_append_38 : decode cX11_append 38 = .ok (.if_icmp .ge 93, 3) := by decide +kernel
theorem dX11_append_41 : decode cX11_append 41 = .ok (.iload 6, 2) := by decide +kernel
theorem dX11_append_43 : decode cX11_append 43 = .ok (.iconst 4, 1) := by decide +kernel
theorem dX11_append_44 : decode cX11_append 44 = .ok (.if_icmp .ge 7, 3) := by decide +kernel
theorem dX11_append_47 : decode cX11_append 47 = .ok (.iload_n 1, 1) := by decide +kernel
theorem dX11_append_48 : decode cX11_append 48 = .ok (.goto 39, 3) := by decide +kernel
theorem dX11_append_51 : decode cX11_append 51 = .ok (.iload 6, 2) := by decide +kernel
theorem dX11_append_53 : decode cX11_append 53 = .ok (.bipush 8, 2) := by decide +kernel
theorem dX11_append_55 : decode cX11_append 55 = .ok (.if_icmp .ge 7, 3) := by decide +kernel
theorem dX11_append_58 : decode cX11_append 58 = .ok (.iload_n 2, 1) := by decide +kernel
theorem dX11_append_59 : decode cX11_append 59 = .ok (.goto 28, 3) := by decide +kernel
theorem dX11_append_62 : decode cX11_append 62 = .ok (.iload 6, 2) := by decide +kernel
theorem dX11_append_64 : decode cX11_append 64 = .ok (.bipush 12, 2) := by decide +kernel
theorem dX11_append_66 : decode cX11_append 66 = .ok (.if_icmp .ge 7, 3) := by decide +kernel
theorem dX11_append_69 : decode cX11_append 69 = .ok (.iload_n 3, 1) := by decide +kernel
theorem dX11_append_70 : decode cX11_append 70 = .ok (.goto 17, 3) := by decide +kernel
theorem dX11_append_73 : decode cX11_append 73 = .ok (.iload 6, 2) := by decide +kernel
theorem dX11_append_75 : decode cX11_append 75 = .ok (.bipush 16, 2) := by decide +kernel
theorem dX11_append_77 : decode cX11_append 77 = .ok (.if_icmp .ge 8, 3) := by decide +kernel
theorem dX11_append_80 : decode cX11_append 80 = .ok (.iload 4, 2) := by decide +kernel
theorem dX11_append_82 : decode cX11_append 82 = .ok (.goto 5, 3) := by decide +kernel
theorem dX11_append_85 : decode cX11_append 85 = .ok (.iload 5, 2) := by decide +kernel
theorem dX11_append_87 : decode cX11_append 87 = .ok (.istore 7, 2) := by decide +kernel
theorem dX11_append_89 : decode cX11_append 89 = .ok (.aload_n 0, 1) := by decide +kernel
theorem dX11_append_90 : decode cX11_append 90 = .ok (.getfield 19, 3) := by decide +kernel
theorem dX11_append_93 : decode cX11_append 93 = .ok (.aload_n 0, 1) := by decide +kernel
theorem dX11_append_94 : decode cX11_append 94 = .ok (.getfield 85, 3) := by decide +kernel
theorem dX11_append_97 : decode cX11_append 97 = .ok (.iload 7, 2) := by decide +kernel
theorem dX11_append_99 : decode cX11_append 99 = .ok (.bipush 24, 2) := by decide +kernel
theorem dX11_append_101 : decode cX11_append 101 = .ok (.bipush 8, 2) := by decide +kernel
theorem dX11_append_103 : decode cX11_append 103 = .ok (.iload 6, 2) := by decide +kernel
theorem dX11_append_105 : decode cX11_append 105 = .ok (.iconst 4, 1) := by decide +kernel
theorem dX11_append_106 : decode cX11_append 106 = .ok (.irem, 1) := by decide +kernel
theorem dX11_append_107 : decode cX11_append 107 = .ok (.imul, 1) := by decide +kernel
theorem dX11_append_108 : decode cX11_append 108 = .ok (.isub, 1) := by decide +kernel
theorem dX11_append_109 : decode cX11_append 109 = .ok (.ishr, 1) := by decide +kernel
theorem dX11_append_110 : decode cX11_append 110 = .ok (.sipush 255, 3) := by decide +kernel
theorem dX11_append_113 : decode cX11_append 113 = .ok (.iand, 1) := by decide +kernel
theorem dX11_append_114 : decode cX11_append 114 = .ok (.iastore, 1) := by decide +kernel
theorem dX11_append_115 : decode cX11_append 115 = .ok (.aload_n 0, 1) := by decide +kernel
theorem dX11_append_116 : decode cX11_append 116 = .ok (.dup, 1) := by decide +kernel
theorem dX11_append_117 : decode cX11_append 117 = .ok (.getfield 85, 3) := by decide +kernel
theorem dX11_append_120 : decode cX11_append 120 = .ok (.iconst 1, 1) := by decide +kernel
theorem dX11_append_121 : decode cX11_append 121 = .ok (.iadd, 1) := by decide +kernel
theorem dX11_append_122 : decode cX11_append 122 = .ok (.putfield 85, 3) := by decide +kernel
theorem dX11_append_125 : decode cX11_append 125 = .ok (.iinc 6 1, 3) := by decide +kernel
theorem dX11_append_128 : decode cX11_append 128 = .ok (.goto (-94), 3) := by decide +kernel
theorem dX11_append_131 : decode cX11_append 131 = .ok (.aload_n 0, 1) := by decide +kernel
theorem dX11_append_132 : decode cX11_append 132 = .ok (.getfield 85, 3) := by decide +kernel
theorem dX11_append_135 : decode cX11_append 135 = .ok (.ireturn, 1) := by decide +kernel
theorem dX11_see_0 : decode cX11_see 0 = .ok (.iload_n 1, 1) := by decide +kernel
theorem dX11_see_1 : decode cX11_see 1 = .ok (.aload_n 0, 1) := by decide +kernel
theorem dX11_see_2 : decode cX11_see 2 = .ok (.getfield 88, 3) := by decide +kernel
theorem dX11_see_5 : decode cX11_see 5 = .ok (.if_icmp .ge 12, 3) := by decide +kernel
theorem dX11_see_8 : decode cX11_see 8 = .ok (.aload_n 0, 1) := by decide +kernel
theorem dX11_see_9 : decode cX11_see 9 = .ok (.getfield 19, 3) := by decide +kernel
theorem dX11_see_12 : decode cX11_see 12 = .ok (.iload_n 1, 1) := by decide +kernel
theorem dX11_see_13 : decode cX11_see 13 = .ok (.iaload, 1) := by decide +kernel
theorem dX11_see_14 : decode cX11_see 14 = .ok (.goto 4, 3) := by decide +kernel
theorem dX11_see_17 : decode cX11_see 17 = .ok (.iconst (-1), 1) := by decide +kernel
theorem dX11_see_18 : decode cX11_see 18 = .ok (.ireturn, 1) := by decide +kernel
set_option maxRecDepth 100000 in
theorem ggX11_isLetter_X11_isIn : GoodIn wsX11_isLetter wsX11_isIn := goodIn_r _ [6] rfl (by decide +kernel)
set_option maxRecDepth 100000 in
theorem gX11_isLetter_X11_isIn : GoodIn wsX11_isLetter (va_wsS RX11 95 yX11_isIn wsX11_isIn) := goodIn_app (goodIn_of _ (by decide +kernel)) ggX11_isLetter_X11_isIn
theorem dX11_isLetter_0 : decode cX11_isLetter 0 = .ok (.iload_n 0, 1) := by decide +kernel
theorem dX11_isLetter_1 : decode cX11_isLetter 1 = .ok (.i2l, 1) := by decide +kernel
theorem dX11_isLetter_2 : decode cX11_isLetter 2 = .ok (.ldc2_w 91, 3) := by decide +kernel
theorem dX11_isLetter_5 : decode cX11_isLetter 5 = .ok (.ldc2_w 93, 3) := by decide +kernel
theorem dX11_isLetter_8 : decode cX11_isLetter 8 = .ok (.invokestatic 95, 3) := by decide +kernel
theorem dX11_isLetter_11 : decode cX11_isLetter 11 = .ok (.ireturn, 1) := by decide +kernel
set_option maxRecDepth 100000 in
theorem ggX11_isDigit_X11_isIn : GoodIn wsX11_isDigit wsX11_isIn := goodIn_r _ [6] rfl (by decide +kernel)
set_option maxRecDepth 100000 in
theorem gX11_isDigit_X11_isIn : GoodIn wsX11_isDigit (va_wsS RX11 95 yX11_isIn wsX11_isIn) := goodIn_app (goodIn_of _ (by decide +kernel)) ggX11_isDigit_X11_isIn
theorem dX11_isDigit_0 : decode cX11_isDigit 0 = .ok (.iload_n 0, 1) := by decide +kernel
theorem dX11_isDigit_1 : decode cX11_isDigit 1 = .ok (.i2l, 1) := by decide +kernel
theorem dX11_isDigit_2 : decode cX11_isDigit 2 = .ok (.ldc2_w 99, 3) := by decide +kernel
theorem dX11_isDigit_5 : decode cX11_isDigit 5 = .ok (.ldc2_w 101, 3) := by decide +kernel
theorem dX11_isDigit_8 : decode cX11_isDigit 8 = .ok (.invokestatic 95, 3) := by decide +kernel
theorem dX11_isDigit_11 : decode cX11_isDigit 11 = .ok (.ireturn, 1) := by decide +kernel
set_option maxRecDepth 100000 in
theorem ggX11_next_X11_see : GoodIn wsX11_next wsX11_see := goodIn_r _ [13, 3, 14, 27, 28, 29, 30, 31, 32, 33, 34, 35, 36, 37, 38, 39, 40, 41, 42, 43, 44, 45, 46, 47, 48, 49, 50, 51, 52, 53] rfl (by decide +kernel)
set_option maxRecDepth 100000 in
theorem gX11_next_X11_see : GoodIn wsX11_next (wsV RX11 109 RX11 yX11_see wsX11_see) := goodIn_app (goodIn_of _ (by decide +kernel)) ggX11_next_X11_see
set_option maxRecDepth 100000 in
theorem ggX11_next_X11_isLetter : GoodIn wsX11_next wsX11_isLetter := goodIn_r _ [17, 18, 19, 20, 21, 12, 22] rfl (by decide +kernel)
set_option maxRecDepth 100000 in
theorem gX11_next_X11_isLetter : GoodIn wsX11_next (va_wsS RX11 116 yX11_isLetter wsX11_isLetter) := goodIn_app (goodIn_of _ (by decide +kernel)) ggX11_next_X11_isLetter
set_option maxRecDepth 100000 in
theorem ggX11_next_X11_isDigit : GoodIn wsX11_next wsX11_isDigit := goodIn_r _ [25, 8, 26, 20, 21, 12, 22] rfl (by decide +kernel)
set_option maxRecDepth 100000 in
theorem gX11_next_X11_isDigit : GoodIn wsX11_next (va_wsS RX11 120 yX11_isDigit wsX11_isDigit) := goodIn_app (goodIn_of _ (by decide +kernel)) ggX11_next_X11_isDigit
theorem dX11_next_0 : decode cX11_next 0 = .ok (.aload_n 0, 1) := by decide +kernel
theorem dX11_next_1 : decode cX11_next 1 = .ok (.aload_n 0, 1) := by decide +kernel
theorem dX11_next_2 : decode cX11_next 2 = .ok (.getfield 103, 3) := by decide +kernel
theorem dX11_next_5 : decode cX11_next 5 = .ok (.putfield 106, 3) := by decide +kernel
theorem dX11_next_8 : decode cX11_next 8 = .ok (.aload_n 0, 1) := by decide +kernel
theorem dX11_next_9 : decode cX11_next 9 = .ok (.aload_n 0, 1) := by decide +kernel
theorem dX11_next_10 : decode cX11_next 10 = .ok (.getfield 106, 3) := by decide +kernel
theorem dX11_next_13 : decode cX11_next 13 = .ok (.invokevirtual 109, 3) := by decide +kernel
theorem dX11_next_16 : decode cX11_next 16 = .ok (.bipush 32, 2) := by decide +kernel
theorem dX11_next_18 : decode cX11_next 18 = .ok (.if_icmp .ne 16, 3) := by decide +kernel
theorem dX11_next_21 : decode cX11_next 21 = .ok (.aload_n 0, 1) := by decide +kernel
theorem dX11_next_22 : decode cX11_next 22 = .ok (.dup, 1) := by decide +kernel
theorem dX11_next_23 : decode cX11_next 23 = .ok (.getfield 106, 3) := by decide +kernel
theorem dX11_next_26 : decode cX11_next 26 = .ok (.iconst 1, 1) := by decide +kernel
theorem dX11_next_27 : decode cX11_next 27 = .ok (.iadd, 1) := by decide +kernel
theorem dX11_next_28 : decode cX11_next 28 = .ok (.putfield 106, 3) := by decide +kernel
theorem dX11_next_31 : decode cX11_next 31 = .ok (.goto (-23), 3) := by decide +kernel
theorem dX11_next_34 : decode cX11_next 34 = .ok (.aload_n 0, 1) := by decide +kernel
theorem dX11_next_35 : decode cX11_next 35 = .ok (.aload_n 0, 1) := by decide +kernel
theorem dX11_next_36 : decode cX11_next 36 = .ok (.getfield 106, 3) := by decide +kernel
theorem dX11_next_39 : decode cX11_next 39 = .ok (.putfield 103, 3) := by decide +kernel
theorem dX11_next_42 : decode cX11_next 42 = .ok (.aload_n 0, 1) := by decide +kernel
theorem dX11_next_43 : decode cX11_next 43 = .ok (.getfield 106, 3) := by decide +kernel
theorem dX11_next_46 : decode cX11_next 46 = .ok (.aload_n 0, 1) := by decide +kernel
theorem dX11_next_47 : decode cX11_next 47 = .ok (.getfield 88, 3) := by decide +kernel
theorem dX11_next_50 : decode cX11_next 50 = .ok (.if_icmp .lt 11, 3) := by decide +kernel
theorem dX11_next_53 : decode cX11_next 53 = .ok (.aload_n 0, 1) := by decide +kernel
theorem dX11_next_54 : decode cX11_next 54 = .ok (.iconst 3, 1) := by decide +kernel
theorem dX11_next_55 : decode cX11_next 55 = .ok (.putfield 113, 3) := by decide +kernel
theorem dX11_next_58 : decode cX11_next 58 = .ok (.goto 158, 3) := by decide +kernel
theorem dX11_next_61 : decode cX11_next 61 = .ok (.aload_n 0, 1) := by decide +kernel
theorem dX11_next_62 : decode cX11_next 62 = .ok (.aload_n 0, 1) := by decide +kernel
theorem dX11_next_63 : decode cX11_next 63 = .ok (.getfield 106, 3) := by decide +kernel
theorem dX11_next_66 : decode cX11_next 66 = .ok (.invokevirtual 109, 3) := by decide +kernel
theorem dX11_next_69 : decode cX11_next 69 = .ok (.invokestatic 116, 3) := by decide +kernel
theorem dX11_next_72 : decode cX11_next 72 = .ok (.ifCond .eq 38, 3) := by decide +kernel
theorem dX11_next_75 : decode cX11_next 75 = .ok (.aload_n 0, 1) := by decide +kernel
theorem dX11_next_76 : decode cX11_next 76 = .ok (.aload_n 0, 1) := by decide +kernel
theorem dX11_next_77 : decode cX11_next 77 = .ok (.getfield 103, 3) := by decide +kernel
theorem dX11_next_80 : decode cX11_next 80 = .ok (.invokevirtual 109, 3) := by decide +kernel
theorem dX11_next_83 : decode cX11_next 83 = .ok (.invokestatic 116, 3) := by decide +kernel
theorem dX11_next_86 : decode cX11_next 86 = .ok (.ifCond .eq 16, 3) := by decide +kernel
theorem dX11_next_89 : decode cX11_next 89 = .ok (.aload_n 0, 1) := by decide +kernel
theorem dX11_next_90 : decode cX11_next 90 = .ok (.dup, 1) := by decide +kernel
theorem dX11_next_91 : decode cX11_next 91 = .ok (.getfield 103, 3) := by decide +kernel
theorem dX11_next_94 : decode cX11_next 94 = .ok (.iconst 1, 1) := by decide +kernel
theorem dX11_next_95 : decode cX11_next 95 = .ok (.iadd, 1) := by decide +kernel
theorem dX11_next_96 : decode cX11_next 96 = .ok (.putfield 103, 3) := by decide +kernel
theorem dX11_next_99 : decode cX11_next 99 = .ok (.goto (-24), 3) := by decide +kernel
theorem dX11_next_102 : decode cX11_next 102 = .ok (.aload_n 0, 1) := by decide +kernel
theorem dX11_next_103 : decode cX11_next 103 = .ok (.iconst 0, 1) := by decide +kernel
theorem dX11_next_104 : decode cX11_next 104 = .ok (.putfield 113, 3) := by decide +kernel
theorem dX11_next_107 : decode cX11_next 107 = .ok (.goto 109, 3) := by decide +kernel
theorem dX11_next_110 : decode cX11_next 110 = .ok (.aload_n 0, 1) := by decide +kernel
theorem dX11_next_111 : decode cX11_next 111 = .ok (.aload_n 0, 1) := by decide +kernel
theorem dX11_next_112 : decode cX11_next 112 = .ok (.getfield 106, 3) := by decide +kernel
theorem dX11_next_115 : decode cX11_next 115 = .ok (.invokevirtual 109, 3) := by decide +kernel
theorem dX11_next_118 : decode cX11_next 118 = .ok (.invokestatic 120, 3) := by decide +kernel
theorem dX11_next_121 : decode cX11_next 121 = .ok (.ifCond .eq 80, 3) := by decide +kernel
theorem dX11_next_124 : decode cX11_next 124 = .ok (.aload_n 0, 1) := by decide +kernel
theorem dX11_next_125 : decode cX11_next 125 = .ok (.lconst 0, 1) := by decide +kernel
theorem dX11_next_126 : decode cX11_next 126 = .ok (.putfield 123, 3) := by decide +kernel
theorem dX11_next_129 : decode cX11_next 129 = .ok (.aload_n 0, 1) := by decide +kernel
theorem dX11_next_130 : decode cX11_next 130 = .ok (.aload_n 0, 1) := by decide +kernel
theorem dX11_next_131 : decode cX11_next 131 = .ok (.getfield 103, 3) := by decide +kernel
theorem dX11_next_134 : decode cX11_next 134 = .ok (.invokevirtual 109, 3) := by decide +kernel
theorem dX11_next_137 : decode cX11_next 137 = .ok (.invokestatic 120, 3) := by decide +kernel
theorem dX11_next_140 : decode cX11_next 140 = .ok (.ifCond .eq 53, 3) := by decide +kernel
theorem dX11_next_143 : decode cX11_next 143 = .ok (.aload_n 0, 1) := by decide +kernel
theorem dX11_next_144 : decode cX11_next 144 = .ok (.getfield 123, 3) := by decide +kernel
theorem dX11_next_147 : decode cX11_next 147 = .ok (.ldc2_w 127, 3) := by decide +kernel
theorem dX11_next_150 : decode cX11_next 150 = .ok (.lcmp, 1) := by decide +kernel
theorem dX11_next_151 : decode cX11_next 151 = .ok (.ifCond .ge 29, 3) := by decide +kernel
theorem dX11_next_154 : decode cX11_next 154 = .ok (.aload_n 0, 1) := by decide +kernel
theorem dX11_next_155 : decode cX11_next 155 = .ok (.ldc2_w 129, 3) := by decide +kernel
theorem dX11_next_158 : decode cX11_next 158 = .ok (.aload_n 0, 1) := by decide +kernel
theorem dX11_next_159 : decode cX11_next 159 = .ok (.getfield 123, 3) := by decide +kernel
theorem dX11_next_162 : decode cX11_next 162 = .ok (.lmul, 1) := by decide +kernel
theorem dX11_next_163 : decode cX11_next 163 = .ok (.aload_n 0, 1) := by decide +kernel
theorem dX11_next_164 : decode cX11_next 164 = .ok (.aload_n 0, 1) := by decide +kernel
theorem dX11_next_165 : decode cX11_next 165 = .ok (.getfield 103, 3) := by decide +kernel
theorem dX11_next_168 : decode cX11_next 168 = .ok (.invokevirtual 109, 3) := by decide +kernel
theorem dX11_next_171 : decode cX11_next 171 = .ok (.i2l, 1) := by decide +kernel
theorem dX11_next_172 : decode cX11_next 172 = .ok (.ladd, 1) := by decide +kernel
theorem dX11_next_173 : decode cX11_next 173 = .ok (.ldc2_w 99, 3) := by decide +kernel
theorem dX11_next_176 : decode cX11_next 176 = .ok (.lsub, 1) := by decide +kernel
theorem dX11_next_177 : decode cX11_next 177 = .ok (.putfield 123, 3) := by decide +kernel
theorem dX11_next_180 : decode cX11_next 180 = .ok (.aload_n 0, 1) := by decide +kernel
theorem dX11_next_181 : decode cX11_next 181 = .ok (.dup, 1) := by decide +kernel
theorem dX11_next_182 : decode cX11_next 182 = .ok (.getfield 103, 3) := by decide +kernel
theorem dX11_next_185 : decode cX11_next 185 = .ok (.iconst 1, 1) := by decide +kernel
theorem dX11_next_186 : decode cX11_next 186 = .ok (.iadd, 1) := by decide +kernel
theorem dX11_next_187 : decode cX11_next 187 = .ok (.putfield 103, 3) := by decide +kernel
theorem dX11_next_190 : decode cX11_next 190 = .ok (.goto (-61), 3) := by decide +kernel
theorem dX11_next_193 : decode cX11_next 193 = .ok (.aload_n 0, 1) := by decide +kernel
theorem dX11_next_194 : decode cX11_next 194 = .ok (.iconst 1, 1) := by decide +kernel
theorem dX11_next_195 : decode cX11_next 195 = .ok (.putfield 113, 3) := by decide +kernel
theorem dX11_next_198 : decode cX11_next 198 = .ok (.goto 18, 3) := by decide +kernel
theorem dX11_next_201 : decode cX11_next 201 = .ok (.aload_n 0, 1) := by decide +kernel
theorem dX11_next_202 : decode cX11_next 202 = .ok (.dup, 1) := by decide +kernel
theorem dX11_next_203 : decode cX11_next 203 = .ok (.getfield 103, 3) := by decide +kernel
theorem dX11_next_206 : decode cX11_next 206 = .ok (.iconst 1, 1) := by decide +kernel
theorem dX11_next_207 : decode cX11_next 207 = .ok (.iadd, 1) := by decide +kernel
theorem dX11_next_208 : decode cX11_next 208 = .ok (.putfield 103, 3) := by decide +kernel
theorem dX11_next_211 : decode cX11_next 211 = .ok (.aload_n 0, 1) := by decide +kernel
theorem dX11_next_212 : decode cX11_next 212 = .ok (.iconst 2, 1) := by decide +kernel
theorem dX11_next_213 : decode cX11_next 213 = .ok (.putfield 113, 3) := by decide +kernel
theorem dX11_next_216 : decode cX11_next 216 = .ok (.return_, 1) := by decide +kernel
set_option maxRecDepth 100000 in
theorem ggX11_isWord_J0_length_8abf5 : GoodIn wsX11_isWord wsJ0_length_8abf5 := goodIn_r _ [10, 11, 12, 13, 14, 9, 15, 16, 17] rfl (by decide +kernel)
set_option maxRecDepth 100000 in
theorem gX11_isWord_J0_length_8abf5 : GoodIn wsX11_isWord (wsV RX11 134 RJ0 yJ0_length_8abf5 wsJ0_length_8abf5) := goodIn_app (goodIn_of _ (by decide +kernel)) ggX11_isWord_J0_length_8abf5
set_option maxRecDepth 100000 in
theorem ggX11_isWord_J0_charAt_5068e : GoodIn wsX11_isWord wsJ0_charAt_5068e := goodIn_r _ [21, 11, 22, 23, 24, 9, 25, 16, 17, 26, 27, 28, 29, 30, 31, 32, 33, 34, 35, 36, 37, 38, 39, 40, 41, 42, 43, 44, 45, 46, 47, 48, 49, 50, 51, 52, 53, 54] rfl (by decide +kernel)
set_option maxRecDepth 100000 in
theorem gX11_isWord_J0_charAt_5068e : GoodIn wsX11_isWord (wsV RX11 140 RJ0 yJ0_charAt_5068e wsJ0_charAt_5068e) := goodIn_app (goodIn_of _ (by decide +kernel)) ggX11_isWord_J0_charAt_5068e
theorem dX11_isWord_0 : decode cX11_isWord 0 = .ok (.aload_n 0, 1) := by decide +kernel
theorem dX11_isWord_1 : decode cX11_isWord 1 = .ok (.getfield 131, 3) := by decide +kernel
theorem dX11_isWord_4 : decode cX11_isWord 4 = .ok (.ifCond .ne 26, 3) := by decide +kernel
theorem dX11_isWord_7 : decode cX11_isWord 7 = .ok (.aload_n 0, 1) := by decide +kernel
theorem dX11_isWord_8 : decode cX11_isWord 8 = .ok (.getfield 113, 3) := by decide +kernel
theorem dX11_isWord_11 : decode cX11_isWord 11 = .ok (.ifCond .ne 19, 3) := by decide +kernel
theorem dX11_isWord_14 : decode cX11_isWord 14 = .ok (.aload_n 0, 1) := by decide +kernel
theorem dX11_isWord_15 : decode cX11_isWord 15 = .ok (.getfield 103, 3) := by decide +kernel
theorem dX11_isWord_18 : decode cX11_isWord 18 = .ok (.aload_n 0, 1) := by decide +kernel
theorem dX11_isWord_19 : decode cX11_isWord 19 = .ok (.getfield 106, 3) := by decide +kernel
theorem dX11_isWord_22 : decode cX11_isWord 22 = .ok (.isub, 1) := by decide +kernel
theorem dX11_isWord_23 : decode cX11_isWord 23 = .ok (.aload_n 1, 1) := by decide +kernel
theorem dX11_isWord_24 : decode cX11_isWord 24 = .ok (.invokevirtual 134, 3) := by decide +kernel
theorem dX11_isWord_27 : decode cX11_isWord 27 = .ok (.if_icmp .eq 5, 3) := by decide +kernel
theorem dX11_isWord_30 : decode cX11_isWord 30 = .ok (.iconst 0, 1) := by decide +kernel
theorem dX11_isWord_31 : decode cX11_isWord 31 = .ok (.ireturn, 1) := by decide +kernel
theorem dX11_isWord_32 : decode cX11_isWord 32 = .ok (.iconst 0, 1) := by decide +kernel
theorem dX11_isWord_33 : decode cX11_isWord 33 = .ok (.istore_n 2, 1) := by decide +kernel
theorem dX11_isWord_34 : decode cX11_isWord 34 = .ok (.iload_n 2, 1) := by decide +kernel
theorem dX11_isWord_35 : decode cX11_isWord 35 = .ok (.aload_n 1, 1) := by decide +kernel
theorem dX11_isWord_36 : decode cX11_isWord 36 = .ok (.invokevirtual 134, 3) := by decide +kernel
theorem dX11_isWord_39 : decode cX11_isWord 39 = .ok (.if_icmp .ge 30, 3) := by decide +kernel
theorem dX11_isWord_42 : decode cX11_isWord 42 = .ok (.aload_n 0, 1) := by decide +kernel
theorem dX11_isWord_43 : decode cX11_isWord 43 = .ok (.getfield 19, 3) := by decide +kernel
theorem dX11_isWord_46 : decode cX11_isWord 46 = .ok (.aload_n 0, 1) := by decide +kernel
theorem dX11_isWord_47 : decode cX11_isWord 47 = .ok (.getfield 106, 3) := by decide +kernel
theorem dX11_isWord_50 : decode cX11_isWord 50 = .ok (.iload_n 2, 1) := by decide +kernel
theorem dX11_isWord_51 : decode cX11_isWord 51 = .ok (.iadd, 1) := by decide +kernel
theorem dX11_isWord_52 : decode cX11_isWord 52 = .ok (.iaload, 1) := by decide +kernel
theorem dX11_isWord_53 : decode cX11_isWord 53 = .ok (.aload_n 1, 1) := by decide +kernel
theorem dX11_isWord_54 : decode cX11_isWord 54 = .ok (.iload_n 2, 1) := by decide +kernel
theorem dX11_isWord_55 : decode cX11_isWord 55 = .ok (.invokevirtual 140, 3) := by decide +kernel
theorem dX11_isWord_58 : decode cX11_isWord 58 = .ok (.if_icmp .eq 5, 3) := by decide +kernel
theorem dX11_isWord_61 : decode cX11_isWord 61 = .ok (.iconst 0, 1) := by decide +kernel
theorem dX11_isWord_62 : decode cX11_isWord 62 = .ok (.ireturn, 1) := by decide +kernel
theorem dX11_isWord_63 : decode cX11_isWord 63 = .ok (.iinc 2 1, 3) := by decide +kernel
theorem dX11_isWord_66 : decode cX11_isWord 66 = .ok (.goto (-32), 3) := by decide +kernel
theorem dX11_isWord_69 : decode cX11_isWord 69 = .ok (.iconst 1, 1) := by decide +kernel
theorem dX11_isWord_70 : decode cX11_isWord 70 = .ok (.ireturn, 1) := by decide +kernel
theorem dX11_fails_0 : decode cX11_fails 0 = .ok (.aload_n 0, 1) := by decide +kernel
theorem dX11_fails_1 : decode cX11_fails 1 = .ok (.getfield 131, 3) := by decide +kernel
theorem dX11_fails_4 : decode cX11_fails 4 = .ok (.ifCond .eq 4, 3) := by decide +kernel
theorem dX11_fails_7 : decode cX11_fails 7 = .ok (.return_, 1) := by decide +kernel
theorem dX11_fails_8 : decode cX11_fails 8 = .ok (.aload_n 0, 1) := by decide +kernel
theorem dX11_fails_9 : decode cX11_fails 9 = .ok (.iload_n 1, 1) := by decide +kernel
theorem dX11_fails_10 : decode cX11_fails 10 = .ok (.putfield 131, 3) := by decide +kernel
theorem dX11_fails_13 : decode cX11_fails 13 = .ok (.aload_n 0, 1) := by decide +kernel
theorem dX11_fails_14 : decode cX11_fails 14 = .ok (.aload_n 0, 1) := by decide +kernel
theorem dX11_fails_15 : decode cX11_fails 15 = .ok (.getfield 106, 3) := by decide +kernel
theorem dX11_fails_18 : decode cX11_fails 18 = .ok (.putfield 144, 3) := by decide +kernel
theorem dX11_fails_21 : decode cX11_fails 21 = .ok (.return_, 1) := by decide +kernel
theorem dX11_isSign_0 : decode cX11_isSign 0 = .ok (.aload_n 0, 1) := by decide +kernel
theorem dX11_isSign_1 : decode cX11_isSign 1 = .ok (.getfield 131, 3) := by decide +kernel
theorem dX11_isSign_4 : decode cX11_isSign 4 = .ok (.ifCond .ne 28, 3) := by decide +kernel
theorem dX11_isSign_7 : decode cX11_isSign 7 = .ok (.aload_n 0, 1) := by decide +kernel
theorem dX11_isSign_8 : decode cX11_isSign 8 = .ok (.getfield 113, 3) := by decide +kernel
theorem dX11_isSign_11 : decode cX11_isSign 11 = .ok (.iconst 2, 1) := by decide +kernel
theorem dX11_isSign_12 : decode cX11_isSign 12 = .ok (.if_icmp .ne 20, 3) := by decide +kernel
theorem dX11_isSign_15 : decode cX11_isSign 15 = .ok (.aload_n 0, 1) := by decide +kernel
theorem dX11_isSign_16 : decode cX11_isSign 16 = .ok (.getfield 19, 3) := by decide +kernel
theorem dX11_isSign_19 : decode cX11_isSign 19 = .ok (.aload_n 0, 1) := by decide +kernel
theorem dX11_isSign_20 : decode cX11_isSign 20 = .ok (.getfield 106, 3) := by decide +kernel
theorem dX11_isSign_23 : decode cX11_isSign 23 = .ok (.iaload, 1) := by decide +kernel
theorem dX11_isSign_24 : decode cX11_isSign 24 = .ok (.iload_n 1, 1) := by decide +kernel
theorem dX11_isSign_25 : decode cX11_isSign 25 = .ok (.if_icmp .ne 7, 3) := by decide +kernel
theorem dX11_isSign_28 : decode cX11_isSign 28 = .ok (.iconst 1, 1) := by decide +kernel
theorem dX11_isSign_29 : decode cX11_isSign 29 = .ok (.goto 4, 3) := by decide +kernel
theorem dX11_isSign_32 : decode cX11_isSign 32 = .ok (.iconst 0, 1) := by decide +kernel
theorem dX11_isSign_33 : decode cX11_isSign 33 = .ok (.ireturn, 1) := by decide +kernel
set_option maxRecDepth 100000 in
theorem ggX11_must_X11_fails : GoodIn wsX11_must wsX11_fails := goodIn_r _ [6, 1, 7, 8, 37, 38, 39, 40, 41, 42, 43, 44, 45, 46, 47, 48, 49, 50, 51, 52, 53, 54, 55, 56, 57, 58, 59, 60, 61, 62, 63] rfl (by decide +kernel)
set_option maxRecDepth 100000 in
theorem gX11_must_X11_fails : GoodIn wsX11_must (wsV RX11 147 RX11 yX11_fails wsX11_fails) := goodIn_app (goodIn_of _ (by decide +kernel)) ggX11_must_X11_fails
set_option maxRecDepth 100000 in
theorem ggX11_must_X11_next : GoodIn wsX11_must wsX11_next := goodIn_r _ [12, 13, 7, 14, 15, 16, 17, 18, 19, 20, 21, 22, 5, 23, 24, 25, 26, 27, 28, 29, 30, 31, 32, 33, 34, 35, 36, 37, 38, 39, 40, 41, 42, 43, 44, 45, 46, 47, 48, 49, 50, 51, 52, 53, 54, 55, 56, 57, 58, 59, 60, 61, 62, 63] rfl (by decide +kernel)
set_option maxRecDepth 100000 in
theorem gX11_must_X11_next : GoodIn wsX11_must (wsV RX11 151 RX11 yX11_next wsX11_next) := goodIn_app (goodIn_of _ (by decide +kernel)) ggX11_must_X11_next
theorem dX11_must_0 : decode cX11_must 0 = .ok (.iload_n 1, 1) := by decide +kernel
theorem dX11_must_1 : decode cX11_must 1 = .ok (.ifCond .ne 9, 3) := by decide +kernel
theorem dX11_must_4 : decode cX11_must 4 = .ok (.aload_n 0, 1) := by decide +kernel
theorem dX11_must_5 : decode cX11_must 5 = .ok (.bipush (-2), 2) := by decide +kernel
theorem dX11_must_7 : decode cX11_must 7 = .ok (.invokevirtual 147, 3) := by decide +kernel
theorem dX11_must_10 : decode cX11_must 10 = .ok (.aload_n 0, 1) := by decide +kernel
theorem dX11_must_11 : decode cX11_must 11 = .ok (.getfield 131, 3) := by decide +kernel
theorem dX11_must_14 : decode cX11_must 14 = .ok (.ifCond .ne 7, 3) := by decide +kernel
theorem dX11_must_17 : decode cX11_must 17 = .ok (.aload_n 0, 1) := by decide +kernel
theorem dX11_must_18 : decode cX11_must 18 = .ok (.invokevirtual 151, 3) := by decide +kernel
theorem dX11_must_21 : decode cX11_must 21 = .ok (.return_, 1) := by decide +kernel
set_option maxRecDepth 100000 in
theorem ggX11_takes_X11_fails : GoodIn wsX11_takes wsX11_fails := goodIn_r _ [8, 1, 9, 10, 37, 38, 39, 40, 41, 42, 43, 44, 45, 46, 47, 48, 49, 50, 51, 52, 53, 54, 55, 56, 57, 58, 59, 60, 61, 62, 63] rfl (by decide +kernel)
set_option maxRecDepth 100000 in
theorem gX11_takes_X11_fails : GoodIn wsX11_takes (wsV RX11 147 RX11 yX11_fails wsX11_fails) := goodIn_app (goodIn_of _ (by decide +kernel)) ggX11_takes_X11_fails
set_option maxRecDepth 100000 in
theorem ggX11_takes_X11_isIn : GoodIn wsX11_takes wsX11_isIn := goodIn_r _ [13] rfl (by decide +kernel)
set_option maxRecDepth 100000 in
theorem gX11_takes_X11_isIn : GoodIn wsX11_takes (va_wsS RX11 95 yX11_isIn wsX11_isIn) := goodIn_app (goodIn_of _ (by decide +kernel)) ggX11_takes_X11_isIn
set_option maxRecDepth 100000 in
theorem ggX11_takes_X11_next : GoodIn wsX11_takes wsX11_next := goodIn_r _ [17, 18, 9, 19, 2, 3, 20, 21, 22, 23, 24, 25, 7, 26, 27, 28, 29, 30, 31, 32, 11, 12, 13, 33, 34, 35, 36, 37, 38, 39, 40, 41, 42, 43, 44, 45, 46, 47, 48, 49, 50, 51, 52, 53, 54, 55, 56, 57, 58, 59, 60, 61, 62, 63] rfl (by decide +kernel)
set_option maxRecDepth 100000 in
theorem gX11_takes_X11_next : GoodIn wsX11_takes (wsV RX11 151 RX11 yX11_next wsX11_next) := goodIn_app (goodIn_of _ (by decide +kernel)) ggX11_takes_X11_next
theorem dX11_takes_0 : decode cX11_takes 0 = .ok (.aload_n 0, 1) := by decide +kernel
theorem dX11_takes_1 : decode cX11_takes 1 = .ok (.getfield 131, 3) := by decide +kernel
theorem dX11_takes_4 : decode cX11_takes 4 = .ok (.ifCond .ne 20, 3) := by decide +kernel
theorem dX11_takes_7 : decode cX11_takes 7 = .ok (.aload_n 0, 1) := by decide +kernel
theorem dX11_takes_8 : decode cX11_takes 8 = .ok (.getfield 113, 3) := by decide +kernel
theorem dX11_takes_11 : decode cX11_takes 11 = .ok (.iconst 1, 1) := by decide +kernel
theorem dX11_takes_12 : decode cX11_takes 12 = .ok (.if_icmp .eq 12, 3) := by decide +kernel
theorem dX11_takes_15 : decode cX11_takes 15 = .ok (.aload_n 0, 1) := by decide +kernel
theorem dX11_takes_16 : decode cX11_takes 16 = .ok (.bipush (-2), 2) := by decide +kernel
theorem dX11_takes_18 : decode cX11_takes 18 = .ok (.invokevirtual 147, 3) := by decide +kernel
theorem dX11_takes_21 : decode cX11_takes 21 = .ok (.goto 30, 3) := by decide +kernel
theorem dX11_takes_24 : decode cX11_takes 24 = .ok (.aload_n 0, 1) := by decide +kernel
theorem dX11_takes_25 : decode cX11_takes 25 = .ok (.getfield 131, 3) := by decide +kernel
theorem dX11_takes_28 : decode cX11_takes 28 = .ok (.ifCond .ne 23, 3) := by decide +kernel
theorem dX11_takes_31 : decode cX11_takes 31 = .ok (.aload_n 0, 1) := by decide +kernel
theorem dX11_takes_32 : decode cX11_takes 32 = .ok (.getfield 123, 3) := by decide +kernel
theorem dX11_takes_35 : decode cX11_takes 35 = .ok (.iload_n 1, 1) := by decide +kernel
theorem dX11_takes_36 : decode cX11_takes 36 = .ok (.i2l, 1) := by decide +kernel
theorem dX11_takes_37 : decode cX11_takes 37 = .ok (.iload_n 2, 1) := by decide +kernel
theorem dX11_takes_38 : decode cX11_takes 38 = .ok (.i2l, 1) := by decide +kernel
theorem dX11_takes_39 : decode cX11_takes 39 = .ok (.invokestatic 95, 3) := by decide +kernel
theorem dX11_takes_42 : decode cX11_takes 42 = .ok (.ifCond .ne 9, 3) := by decide +kernel
theorem dX11_takes_45 : decode cX11_takes 45 = .ok (.aload_n 0, 1) := by decide +kernel
theorem dX11_takes_46 : decode cX11_takes 46 = .ok (.bipush (-3), 2) := by decide +kernel
theorem dX11_takes_48 : decode cX11_takes 48 = .ok (.invokevirtual 147, 3) := by decide +kernel
theorem dX11_takes_51 : decode cX11_takes 51 = .ok (.aload_n 0, 1) := by decide +kernel
theorem dX11_takes_52 : decode cX11_takes 52 = .ok (.getfield 131, 3) := by decide +kernel
theorem dX11_takes_55 : decode cX11_takes 55 = .ok (.ifCond .ne 11, 3) := by decide +kernel
theorem dX11_takes_58 : decode cX11_takes 58 = .ok (.aload_n 0, 1) := by decide +kernel
theorem dX11_takes_59 : decode cX11_takes 59 = .ok (.getfield 123, 3) := by decide +kernel
theorem dX11_takes_62 : decode cX11_takes 62 = .ok (.l2i, 1) := by decide +kernel
theorem dX11_takes_63 : decode cX11_takes 63 = .ok (.goto 4, 3) := by decide +kernel
theorem dX11_takes_66 : decode cX11_takes 66 = .ok (.iconst 0, 1) := by decide +kernel
theorem dX11_takes_67 : decode cX11_takes 67 = .ok (.istore_n 3, 1) := by decide +kernel
theorem dX11_takes_68 : decode cX11_takes 68 = .ok (.aload_n 0, 1) := by decide +kernel
theorem dX11_takes_69 : decode cX11_takes 69 = .ok (.getfield 131, 3) := by decide +kernel
theorem dX11_takes_72 : decode cX11_takes 72 = .ok (.ifCond .ne 7, 3) := by decide +kernel
theorem dX11_takes_75 : decode cX11_takes 75 = .ok (.aload_n 0, 1) := by decide +kernel
theorem dX11_takes_76 : decode cX11_takes 76 = .ok (.invokevirtual 151, 3) := by decide +kernel
theorem dX11_takes_79 : decode cX11_takes 79 = .ok (.iload_n 3, 1) := by decide +kernel
theorem dX11_takes_80 : decode cX11_takes 80 = .ok (.ireturn, 1) := by decide +kernel
set_option maxRecDepth 100000 in
theorem ggX11_takesWord_X11_fails : GoodIn wsX11_takesWord wsX11_fails := goodIn_r _ [14, 1, 4, 15, 41, 42, 43, 44, 45, 46, 47, 48, 49, 50, 51, 52, 53, 54, 55, 56, 57, 58, 59, 60, 61, 62, 63, 64, 65, 66, 67] rfl (by decide +kernel)
set_option maxRecDepth 100000 in
theorem gX11_takesWord_X11_fails : GoodIn wsX11_takesWord (wsV RX11 147 RX11 yX11_fails wsX11_fails) := goodIn_app (goodIn_of _ (by decide +kernel)) ggX11_takesWord_X11_fails
set_option maxRecDepth 100000 in
theorem ggX11_takesWord_X11_next : GoodIn wsX11_takesWord wsX11_next := goodIn_r _ [19, 3, 4, 20, 2, 21, 22, 23, 24, 25, 26, 27, 13, 28, 7, 29, 30, 31, 32, 33, 34, 35, 36, 37, 38, 39, 40, 41, 42, 43, 44, 45, 46, 47, 48, 49, 50, 51, 52, 53, 54, 55, 56, 57, 58, 59, 60, 61, 62, 63, 64, 65, 66, 67] rfl (by decide +kernel)
set_option maxRecDepth 100000 in
theorem gX11_takesWord_X11_next : GoodIn wsX11_takesWord (wsV RX11 151 RX11 yX11_next wsX11_next) := goodIn_app (goodIn_of _ (by decide +kernel)) ggX11_takesWord_X11_next
theorem dX11_takesWord_0 : decode cX11_takesWord 0 = .ok (.aload_n 0, 1) := by decide +kernel
theorem dX11_takesWord_1 : decode cX11_takesWord 1 = .ok (.getfield 131, 3) := by decide +kernel
theorem dX11_takesWord_4 : decode cX11_takesWord 4 = .ok (.ifCond .ne 30, 3) := by decide +kernel
theorem dX11_takesWord_7 : decode cX11_takesWord 7 = .ok (.aload_n 0, 1) := by decide +kernel
theorem dX11_takesWord_8 : decode cX11_takesWord 8 = .ok (.getfield 113, 3) := by decide +kernel
theorem dX11_takesWord_11 : decode cX11_takesWord 11 = .ok (.ifCond .ne 17, 3) := by decide +kernel
theorem dX11_takesWord_14 : decode cX11_takesWord 14 = .ok (.aload_n 0, 1) := by decide +kernel
theorem dX11_takesWord_15 : decode cX11_takesWord 15 = .ok (.getfield 103, 3) := by decide +kernel
theorem dX11_takesWord_18 : decode cX11_takesWord 18 = .ok (.aload_n 0, 1) := by decide +kernel
theorem dX11_takesWord_19 : decode cX11_takesWord 19 = .ok (.getfield 106, 3) := by decide +kernel
theorem dX11_takesWord_22 : decode cX11_takesWord 22 = .ok (.isub, 1) := by decide +kernel
theorem dX11_takesWord_23 : decode cX11_takesWord 23 = .ok (.bipush 8, 2) := by decide +kernel
theorem dX11_takesWord_25 : decode cX11_takesWord 25 = .ok (.if_icmp .le 9, 3) := by decide +kernel
theorem dX11_takesWord_28 : decode cX11_takesWord 28 = .ok (.aload_n 0, 1) := by decide +kernel
theorem dX11_takesWord_29 : decode cX11_takesWord 29 = .ok (.bipush (-2), 2) := by decide +kernel
theorem dX11_takesWord_31 : decode cX11_takesWord 31 = .ok (.invokevirtual 147, 3) := by decide +kernel
theorem dX11_takesWord_34 : decode cX11_takesWord 34 = .ok (.lload_n 1, 1) := by decide +kernel
theorem dX11_takesWord_35 : decode cX11_takesWord 35 = .ok (.ldc2_w 154, 3) := by decide +kernel
theorem dX11_takesWord_38 : decode cX11_takesWord 38 = .ok (.lcmp, 1) := by decide +kernel
theorem dX11_takesWord_39 : decode cX11_takesWord 39 = .ok (.ifCond .ne 9, 3) := by decide +kernel
theorem dX11_takesWord_42 : decode cX11_takesWord 42 = .ok (.aload_n 0, 1) := by decide +kernel
theorem dX11_takesWord_43 : decode cX11_takesWord 43 = .ok (.bipush (-4), 2) := by decide +kernel
theorem dX11_takesWord_45 : decode cX11_takesWord 45 = .ok (.invokevirtual 147, 3) := by decide +kernel
theorem dX11_takesWord_48 : decode cX11_takesWord 48 = .ok (.lconst 0, 1) := by decide +kernel
theorem dX11_takesWord_49 : decode cX11_takesWord 49 = .ok (.lstore_n 3, 1) := by decide +kernel
theorem dX11_takesWord_50 : decode cX11_takesWord 50 = .ok (.aload_n 0, 1) := by decide +kernel
theorem dX11_takesWord_51 : decode cX11_takesWord 51 = .ok (.getfield 106, 3) := by decide +kernel
theorem dX11_takesWord_54 : decode cX11_takesWord 54 = .ok (.istore 5, 2) := by decide +kernel
theorem dX11_takesWord_56 : decode cX11_takesWord 56 = .ok (.aload_n 0, 1) := by decide +kernel
theorem dX11_takesWord_57 : decode cX11_takesWord 57 = .ok (.getfield 131, 3) := by decide +kernel
theorem dX11_takesWord_60 : decode cX11_takesWord 60 = .ok (.ifCond .ne 37, 3) := by decide +kernel
theorem dX11_takesWord_63 : decode cX11_takesWord 63 = .ok (.iload 5, 2) := by decide +kernel
theorem dX11_takesWord_65 : decode cX11_takesWord 65 = .ok (.aload_n 0, 1) := by decide +kernel
theorem dX11_takesWord_66 : decode cX11_takesWord 66 = .ok (.getfield 103, 3) := by decide +kernel
theorem dX11_takesWord_69 : decode cX11_takesWord 69 = .ok (.if_icmp .ge 28, 3) := by decide +kernel
theorem dX11_takesWord_72 : decode cX11_takesWord 72 = .ok (.ldc2_w 156, 3) := by decide +kernel
theorem dX11_takesWord_75 : decode cX11_takesWord 75 = .ok (.lload_n 3, 1) := by decide +kernel
theorem dX11_takesWord_76 : decode cX11_takesWord 76 = .ok (.lmul, 1) := by decide +kernel
theorem dX11_takesWord_77 : decode cX11_takesWord 77 = .ok (.aload_n 0, 1) := by decide +kernel
theorem dX11_takesWord_78 : decode cX11_takesWord 78 = .ok (.getfield 19, 3) := by decide +kernel
theorem dX11_takesWord_81 : decode cX11_takesWord 81 = .ok (.iload 5, 2) := by decide +kernel
theorem dX11_takesWord_83 : decode cX11_takesWord 83 = .ok (.iaload, 1) := by decide +kernel
theorem dX11_takesWord_84 : decode cX11_takesWord 84 = .ok (.i2l, 1) := by decide +kernel
theorem dX11_takesWord_85 : decode cX11_takesWord 85 = .ok (.ladd, 1) := by decide +kernel
theorem dX11_takesWord_86 : decode cX11_takesWord 86 = .ok (.ldc2_w 158, 3) := by decide +kernel
theorem dX11_takesWord_89 : decode cX11_takesWord 89 = .ok (.lsub, 1) := by decide +kernel
theorem dX11_takesWord_90 : decode cX11_takesWord 90 = .ok (.lstore_n 3, 1) := by decide +kernel
theorem dX11_takesWord_91 : decode cX11_takesWord 91 = .ok (.iinc 5 1, 3) := by decide +kernel
theorem dX11_takesWord_94 : decode cX11_takesWord 94 = .ok (.goto (-38), 3) := by decide +kernel
theorem dX11_takesWord_97 : decode cX11_takesWord 97 = .ok (.aload_n 0, 1) := by decide +kernel
theorem dX11_takesWord_98 : decode cX11_takesWord 98 = .ok (.getfield 13, 3) := by decide +kernel
theorem dX11_takesWord_101 : decode cX11_takesWord 101 = .ok (.bipush 7, 2) := by decide +kernel
theorem dX11_takesWord_103 : decode cX11_takesWord 103 = .ok (.laload, 1) := by decide +kernel
theorem dX11_takesWord_104 : decode cX11_takesWord 104 = .ok (.l2i, 1) := by decide +kernel
theorem dX11_takesWord_105 : decode cX11_takesWord 105 = .ok (.istore 5, 2) := by decide +kernel
theorem dX11_takesWord_107 : decode cX11_takesWord 107 = .ok (.iconst 0, 1) := by decide +kernel
theorem dX11_takesWord_108 : decode cX11_takesWord 108 = .ok (.istore 6, 2) := by decide +kernel
theorem dX11_takesWord_110 : decode cX11_takesWord 110 = .ok (.iload 6, 2) := by decide +kernel
theorem dX11_takesWord_112 : decode cX11_takesWord 112 = .ok (.iload 5, 2) := by decide +kernel
theorem dX11_takesWord_114 : decode cX11_takesWord 114 = .ok (.if_icmp .ge 25, 3) := by decide +kernel
theorem dX11_takesWord_117 : decode cX11_takesWord 117 = .ok (.aload_n 0, 1) := by decide +kernel
theorem dX11_takesWord_118 : decode cX11_takesWord 118 = .ok (.getfield 13, 3) := by decide +kernel
theorem dX11_takesWord_121 : decode cX11_takesWord 121 = .ok (.sipush 475, 3) := by decide +kernel
theorem dX11_takesWord_124 : decode cX11_takesWord 124 = .ok (.iload 6, 2) := by decide +kernel
theorem dX11_takesWord_126 : decode cX11_takesWord 126 = .ok (.iadd, 1) := by decide +kernel
theorem dX11_takesWord_127 : decode cX11_takesWord 127 = .ok (.laload, 1) := by decide +kernel
theorem dX11_takesWord_128 : decode cX11_takesWord 128 = .ok (.lload_n 3, 1) := by decide +kernel
theorem dX11_takesWord_129 : decode cX11_takesWord 129 = .ok (.lcmp, 1) := by decide +kernel
theorem dX11_takesWord_130 : decode cX11_takesWord 130 = .ok (.ifCond .eq 9, 3) := by decide +kernel
theorem dX11_takesWord_133 : decode cX11_takesWord 133 = .ok (.iinc 6 1, 3) := by decide +kernel
theorem dX11_takesWord_136 : decode cX11_takesWord 136 = .ok (.goto (-26), 3) := by decide +kernel
theorem dX11_takesWord_139 : decode cX11_takesWord 139 = .ok (.iload 6, 2) := by decide +kernel
theorem dX11_takesWord_141 : decode cX11_takesWord 141 = .ok (.bipush 24, 2) := by decide +kernel
theorem dX11_takesWord_143 : decode cX11_takesWord 143 = .ok (.if_icmp .ne 9, 3) := by decide +kernel
theorem dX11_takesWord_146 : decode cX11_takesWord 146 = .ok (.aload_n 0, 1) := by decide +kernel
theorem dX11_takesWord_147 : decode cX11_takesWord 147 = .ok (.bipush (-4), 2) := by decide +kernel
theorem dX11_takesWord_149 : decode cX11_takesWord 149 = .ok (.invokevirtual 147, 3) := by decide +kernel
theorem dX11_takesWord_152 : decode cX11_takesWord 152 = .ok (.aload_n 0, 1) := by decide +kernel
theorem dX11_takesWord_153 : decode cX11_takesWord 153 = .ok (.getfield 131, 3) := by decide +kernel
theorem dX11_takesWord_156 : decode cX11_takesWord 156 = .ok (.ifCond .eq 5, 3) := by decide +kernel
theorem dX11_takesWord_159 : decode cX11_takesWord 159 = .ok (.iconst 0, 1) := by decide +kernel
theorem dX11_takesWord_160 : decode cX11_takesWord 160 = .ok (.ireturn, 1) := by decide +kernel
theorem dX11_takesWord_161 : decode cX11_takesWord 161 = .ok (.iload 6, 2) := by decide +kernel
theorem dX11_takesWord_163 : decode cX11_takesWord 163 = .ok (.iload 5, 2) := by decide +kernel
theorem dX11_takesWord_165 : decode cX11_takesWord 165 = .ok (.if_icmp .ne 26, 3) := by decide +kernel
theorem dX11_takesWord_168 : decode cX11_takesWord 168 = .ok (.aload_n 0, 1) := by decide +kernel
theorem dX11_takesWord_169 : decode cX11_takesWord 169 = .ok (.getfield 13, 3) := by decide +kernel
theorem dX11_takesWord_172 : decode cX11_takesWord 172 = .ok (.sipush 475, 3) := by decide +kernel
theorem dX11_takesWord_175 : decode cX11_takesWord 175 = .ok (.iload 5, 2) := by decide +kernel
theorem dX11_takesWord_177 : decode cX11_takesWord 177 = .ok (.iadd, 1) := by decide +kernel
theorem dX11_takesWord_178 : decode cX11_takesWord 178 = .ok (.lload_n 3, 1) := by decide +kernel
theorem dX11_takesWord_179 : decode cX11_takesWord 179 = .ok (.lastore, 1) := by decide +kernel
theorem dX11_takesWord_180 : decode cX11_takesWord 180 = .ok (.aload_n 0, 1) := by decide +kernel
theorem dX11_takesWord_181 : decode cX11_takesWord 181 = .ok (.getfield 13, 3) := by decide +kernel
theorem dX11_takesWord_184 : decode cX11_takesWord 184 = .ok (.bipush 7, 2) := by decide +kernel
theorem dX11_takesWord_186 : decode cX11_takesWord 186 = .ok (.dup2, 1) := by decide +kernel
theorem dX11_takesWord_187 : decode cX11_takesWord 187 = .ok (.laload, 1) := by decide +kernel
theorem dX11_takesWord_188 : decode cX11_takesWord 188 = .ok (.lconst 1, 1) := by decide +kernel
theorem dX11_takesWord_189 : decode cX11_takesWord 189 = .ok (.ladd, 1) := by decide +kernel
theorem dX11_takesWord_190 : decode cX11_takesWord 190 = .ok (.lastore, 1) := by decide +kernel
theorem dX11_takesWord_191 : decode cX11_takesWord 191 = .ok (.aload_n 0, 1) := by decide +kernel
theorem dX11_takesWord_192 : decode cX11_takesWord 192 = .ok (.invokevirtual 151, 3) := by decide +kernel
theorem dX11_takesWord_195 : decode cX11_takesWord 195 = .ok (.iload 6, 2) := by decide +kernel
theorem dX11_takesWord_197 : decode cX11_takesWord 197 = .ok (.ireturn, 1) := by decide +kernel
set_option maxRecDepth 100000 in
theorem ggX11_readsSegment_X11_fails : GoodIn wsX11_readsSegment wsX11_fails := goodIn_r _ [8, 2, 9, 10, 110, 111, 112, 113, 114, 115, 116, 117, 118, 119, 120, 121, 122, 123, 124, 125, 126, 127, 128, 129, 130, 131, 132, 133, 134, 135, 136] rfl (by decide +kernel)
set_option maxRecDepth 100000 in
theorem gX11_readsSegment_X11_fails : GoodIn wsX11_readsSegment (wsV RX11 147 RX11 yX11_fails wsX11_fails) := goodIn_app (goodIn_of _ (by decide +kernel)) ggX11_readsSegment_X11_fails
set_option maxRecDepth 100000 in
theorem ggX11_readsSegment_X11_isWord : GoodIn wsX11_readsSegment wsX11_isWord := goodIn_r _ [14, 2, 3, 15, 9, 16, 17, 18, 19, 20, 21, 22, 23, 24, 25, 26, 27, 28, 29, 30, 31, 32, 33, 34, 35, 36, 37, 38, 39, 40, 41, 42, 43, 44, 45, 46, 47, 48, 49, 50, 51, 52, 53, 54, 55, 56, 57, 58, 59, 60, 61, 62, 63, 64, 65, 110, 111, 112, 113, 114, 115, 116, 117, 118, 119, 120, 121, 122, 123, 124, 125, 126, 127, 128, 129, 130, 131, 132, 133, 134, 135, 136] rfl (by decide +kernel)
set_option maxRecDepth 100000 in
theorem gX11_readsSegment_X11_isWord : GoodIn wsX11_readsSegment (wsV RX11 162 RX11 yX11_isWord wsX11_isWord) := goodIn_app (goodIn_of _ (by decide +kernel)) ggX11_readsSegment_X11_isWord
set_option maxRecDepth 100000 in
theorem ggX11_readsSegment_X11_must : GoodIn wsX11_readsSegment wsX11_must := goodIn_r _ [69, 2, 4, 5, 6, 7, 8, 9, 10, 70, 71, 72, 73, 15, 74, 3, 75, 76, 77, 78, 79, 80, 81, 82, 16, 83, 84, 85, 86, 87, 88, 89, 90, 91, 92, 93, 94, 110, 111, 112, 113, 114, 115, 116, 117, 118, 119, 120, 121, 122, 123, 124, 125, 126, 127, 128, 129, 130, 131, 132, 133, 134, 135, 136] rfl (by decide +kernel)
set_option maxRecDepth 100000 in
theorem gX11_readsSegment_X11_must : GoodIn wsX11_readsSegment (wsV RX11 166 RX11 yX11_must wsX11_must) := goodIn_app (goodIn_of _ (by decide +kernel)) ggX11_readsSegment_X11_must
set_option maxRecDepth 100000 in
theorem ggX11_readsSegment_X11_takes : GoodIn wsX11_readsSegment wsX11_takes := goodIn_r _ [98, 2, 3, 75, 4, 5, 6, 7, 8, 9, 10, 88, 89, 90, 70, 71, 72, 73, 15, 74, 76, 77, 78, 79, 80, 81, 82, 16, 83, 84, 85, 86, 87, 91, 92, 93, 94, 110, 111, 112, 113, 114, 115, 116, 117, 118, 119, 120, 121, 122, 123, 124, 125, 126, 127, 128, 129, 130, 131, 132, 133, 134, 135, 136] rfl (by decide +kernel)
set_option maxRecDepth 100000 in
theorem gX11_readsSegment_X11_takes : GoodIn wsX11_readsSegment (wsV RX11 170 RX11 yX11_takes wsX11_takes) := goodIn_app (goodIn_of _ (by decide +kernel)) ggX11_readsSegment_X11_takes
set_option maxRecDepth 100000 in
theorem ggX11_readsSegment_X11_takesWord : GoodIn wsX11_readsSegment wsX11_takesWord := goodIn_r _ [102, 2, 3, 15, 9, 103, 104, 16, 105, 1, 4, 5, 6, 7, 8, 10, 70, 71, 72, 73, 74, 75, 76, 77, 78, 79, 80, 81, 82, 83, 84, 85, 86, 87, 88, 89, 90, 91, 92, 93, 94, 110, 111, 112, 113, 114, 115, 116, 117, 118, 119, 120, 121, 122, 123, 124, 125, 126, 127, 128, 129, 130, 131, 132, 133, 134, 135, 136] rfl (by decide +kernel)
set_option maxRecDepth 100000 in
theorem gX11_readsSegment_X11_takesWord : GoodIn wsX11_readsSegment (wsV RX11 174 RX11 yX11_takesWord wsX11_takesWord) := goodIn_app (goodIn_of _ (by decide +kernel)) ggX11_readsSegment_X11_takesWord
set_option maxRecDepth 100000 in
theorem ggX11_readsSegment_X11_isSign : GoodIn wsX11_readsSegment wsX11_isSign := goodIn_r _ [109, 2, 3, 16, 9, 110, 111, 112, 113, 114, 115, 116, 117, 118, 119, 120, 121, 122, 123, 124, 125, 126, 127, 128, 129, 130, 131, 132, 133, 134, 135, 136] rfl (by decide +kernel)
set_option maxRecDepth 100000 in
theorem gX11_readsSegment_X11_isSign : GoodIn wsX11_readsSegment (wsV RX11 178 RX11 yX11_isSign wsX11_isSign) := goodIn_app (goodIn_of _ (by decide +kernel)) ggX11_readsSegment_X11_isSign
theorem dX11_readsSegment_0 : decode cX11_readsSegment 0 = .ok (.aload_n 0, 1) := by decide +kernel
theorem dX11_readsSegment_1 : decode cX11_readsSegment 1 = .ok (.getfield 13, 3) := by decide +kernel
theorem dX11_readsSegment_4 : decode cX11_readsSegment 4 = .ok (.bipush 6, 2) := by decide +kernel
theorem dX11_readsSegment_6 : decode cX11_readsSegment 6 = .ok (.laload, 1) := by decide +kernel
theorem dX11_readsSegment_7 : decode cX11_readsSegment 7 = .ok (.l2i, 1) := by decide +kernel
theorem dX11_readsSegment_8 : decode cX11_readsSegment 8 = .ok (.istore_n 1, 1) := by decide +kernel
theorem dX11_readsSegment_9 : decode cX11_readsSegment 9 = .ok (.iload_n 1, 1) := by decide +kernel
theorem dX11_readsSegment_10 : decode cX11_readsSegment 10 = .ok (.bipush 32, 2) := by decide +kernel
theorem dX11_readsSegment_12 : decode cX11_readsSegment 12 = .ok (.if_icmp .ne 9, 3) := by decide +kernel
theorem dX11_readsSegment_15 : decode cX11_readsSegment 15 = .ok (.aload_n 0, 1) := by decide +kernel
theorem dX11_readsSegment_16 : decode cX11_readsSegment 16 = .ok (.bipush (-4), 2) := by decide +kernel
theorem dX11_readsSegment_18 : decode cX11_readsSegment 18 = .ok (.invokevirtual 147, 3) := by decide +kernel
theorem dX11_readsSegment_21 : decode cX11_readsSegment 21 = .ok (.aload_n 0, 1) := by decide +kernel
theorem dX11_readsSegment_22 : decode cX11_readsSegment 22 = .ok (.aload_n 0, 1) := by decide +kernel
theorem dX11_readsSegment_23 : decode cX11_readsSegment 23 = .ok (.ldc 160, 2) := by decide +kernel
theorem dX11_readsSegment_25 : decode cX11_readsSegment 25 = .ok (.invokevirtual 162, 3) := by decide +kernel
theorem dX11_readsSegment_28 : decode cX11_readsSegment 28 = .ok (.invokevirtual 166, 3) := by decide +kernel
theorem dX11_readsSegment_31 : decode cX11_readsSegment 31 = .ok (.aload_n 0, 1) := by decide +kernel
theorem dX11_readsSegment_32 : decode cX11_readsSegment 32 = .ok (.getfield 131, 3) := by decide +kernel
theorem dX11_readsSegment_35 : decode cX11_readsSegment 35 = .ok (.ifCond .eq 4, 3) := by decide +kernel
theorem dX11_readsSegment_38 : decode cX11_readsSegment 38 = .ok (.return_, 1) := by decide +kernel
theorem dX11_readsSegment_39 : decode cX11_readsSegment 39 = .ok (.bipush 10, 2) := by decide +kernel
theorem dX11_readsSegment_41 : decode cX11_readsSegment 41 = .ok (.bipush 12, 2) := by decide +kernel
theorem dX11_readsSegment_43 : decode cX11_readsSegment 43 = .ok (.iload_n 1, 1) := by decide +kernel
theorem dX11_readsSegment_44 : decode cX11_readsSegment 44 = .ok (.imul, 1) := by decide +kernel
theorem dX11_readsSegment_45 : decode cX11_readsSegment 45 = .ok (.iadd, 1) := by decide +kernel
theorem dX11_readsSegment_46 : decode cX11_readsSegment 46 = .ok (.istore_n 2, 1) := by decide +kernel
theorem dX11_readsSegment_47 : decode cX11_readsSegment 47 = .ok (.aload_n 0, 1) := by decide +kernel
theorem dX11_readsSegment_48 : decode cX11_readsSegment 48 = .ok (.getfield 13, 3) := by decide +kernel
theorem dX11_readsSegment_51 : decode cX11_readsSegment 51 = .ok (.iload_n 2, 1) := by decide +kernel
theorem dX11_readsSegment_52 : decode cX11_readsSegment 52 = .ok (.iconst 0, 1) := by decide +kernel
theorem dX11_readsSegment_53 : decode cX11_readsSegment 53 = .ok (.iadd, 1) := by decide +kernel
theorem dX11_readsSegment_54 : decode cX11_readsSegment 54 = .ok (.aload_n 0, 1) := by decide +kernel
theorem dX11_readsSegment_55 : decode cX11_readsSegment 55 = .ok (.iconst 1, 1) := by decide +kernel
theorem dX11_readsSegment_56 : decode cX11_readsSegment 56 = .ok (.sipush 999, 3) := by decide +kernel
theorem dX11_readsSegment_59 : decode cX11_readsSegment 59 = .ok (.invokevirtual 170, 3) := by decide +kernel
theorem dX11_readsSegment_62 : decode cX11_readsSegment 62 = .ok (.i2l, 1) := by decide +kernel
theorem dX11_readsSegment_63 : decode cX11_readsSegment 63 = .ok (.lastore, 1) := by decide +kernel
theorem dX11_readsSegment_64 : decode cX11_readsSegment 64 = .ok (.aload_n 0, 1) := by decide +kernel
theorem dX11_readsSegment_65 : decode cX11_readsSegment 65 = .ok (.getfield 13, 3) := by decide +kernel
theorem dX11_readsSegment_68 : decode cX11_readsSegment 68 = .ok (.iload_n 2, 1) := by decide +kernel
theorem dX11_readsSegment_69 : decode cX11_readsSegment 69 = .ok (.iconst 1, 1) := by decide +kernel
theorem dX11_readsSegment_70 : decode cX11_readsSegment 70 = .ok (.iadd, 1) := by decide +kernel
theorem dX11_readsSegment_71 : decode cX11_readsSegment 71 = .ok (.aload_n 0, 1) := by decide +kernel
theorem dX11_readsSegment_72 : decode cX11_readsSegment 72 = .ok (.iconst 0, 1) := by decide +kernel
theorem dX11_readsSegment_73 : decode cX11_readsSegment 73 = .ok (.bipush 99, 2) := by decide +kernel
theorem dX11_readsSegment_75 : decode cX11_readsSegment 75 = .ok (.invokevirtual 170, 3) := by decide +kernel
theorem dX11_readsSegment_78 : decode cX11_readsSegment 78 = .ok (.i2l, 1) := by decide +kernel
theorem dX11_readsSegment_79 : decode cX11_readsSegment 79 = .ok (.lastore, 1) := by decide +kernel
theorem dX11_readsSegment_80 : decode cX11_readsSegment 80 = .ok (.aload_n 0, 1) := by decide +kernel
theorem dX11_readsSegment_81 : decode cX11_readsSegment 81 = .ok (.getfield 131, 3) := by decide +kernel
theorem dX11_readsSegment_84 : decode cX11_readsSegment 84 = .ok (.ifCond .ne 7, 3) := by decide +kernel
theorem dX11_readsSegment_87 : decode cX11_readsSegment 87 = .ok (.iconst 1, 1) := by decide +kernel
theorem dX11_readsSegment_88 : decode cX11_readsSegment 88 = .ok (.goto 4, 3) := by decide +kernel
theorem dX11_readsSegment_91 : decode cX11_readsSegment 91 = .ok (.iconst 0, 1) := by decide +kernel
theorem dX11_readsSegment_92 : decode cX11_readsSegment 92 = .ok (.istore_n 3, 1) := by decide +kernel
theorem dX11_readsSegment_93 : decode cX11_readsSegment 93 = .ok (.iload_n 3, 1) := by decide +kernel
theorem dX11_readsSegment_94 : decode cX11_readsSegment 94 = .ok (.ifCond .eq 74, 3) := by decide +kernel
theorem dX11_readsSegment_97 : decode cX11_readsSegment 97 = .ok (.aload_n 0, 1) := by decide +kernel
theorem dX11_readsSegment_98 : decode cX11_readsSegment 98 = .ok (.aload_n 0, 1) := by decide +kernel
theorem dX11_readsSegment_99 : decode cX11_readsSegment 99 = .ok (.getfield 13, 3) := by decide +kernel
theorem dX11_readsSegment_102 : decode cX11_readsSegment 102 = .ok (.iload_n 2, 1) := by decide +kernel
theorem dX11_readsSegment_103 : decode cX11_readsSegment 103 = .ok (.iconst 2, 1) := by decide +kernel
theorem dX11_readsSegment_104 : decode cX11_readsSegment 104 = .ok (.iadd, 1) := by decide +kernel
theorem dX11_readsSegment_105 : decode cX11_readsSegment 105 = .ok (.laload, 1) := by decide +kernel
theorem dX11_readsSegment_106 : decode cX11_readsSegment 106 = .ok (.invokevirtual 174, 3) := by decide +kernel
theorem dX11_readsSegment_109 : decode cX11_readsSegment 109 = .ok (.istore 4, 2) := by decide +kernel
theorem dX11_readsSegment_111 : decode cX11_readsSegment 111 = .ok (.aload_n 0, 1) := by decide +kernel
theorem dX11_readsSegment_112 : decode cX11_readsSegment 112 = .ok (.getfield 131, 3) := by decide +kernel
theorem dX11_readsSegment_115 : decode cX11_readsSegment 115 = .ok (.ifCond .eq 4, 3) := by decide +kernel
theorem dX11_readsSegment_118 : decode cX11_readsSegment 118 = .ok (.return_, 1) := by decide +kernel
theorem dX11_readsSegment_119 : decode cX11_readsSegment 119 = .ok (.aload_n 0, 1) := by decide +kernel
theorem dX11_readsSegment_120 : decode cX11_readsSegment 120 = .ok (.getfield 13, 3) := by decide +kernel
theorem dX11_readsSegment_123 : decode cX11_readsSegment 123 = .ok (.iload_n 2, 1) := by decide +kernel
theorem dX11_readsSegment_124 : decode cX11_readsSegment 124 = .ok (.iconst 3, 1) := by decide +kernel
theorem dX11_readsSegment_125 : decode cX11_readsSegment 125 = .ok (.iadd, 1) := by decide +kernel
theorem dX11_readsSegment_126 : decode cX11_readsSegment 126 = .ok (.aload_n 0, 1) := by decide +kernel
theorem dX11_readsSegment_127 : decode cX11_readsSegment 127 = .ok (.getfield 13, 3) := by decide +kernel
theorem dX11_readsSegment_130 : decode cX11_readsSegment 130 = .ok (.iload_n 2, 1) := by decide +kernel
theorem dX11_readsSegment_131 : decode cX11_readsSegment 131 = .ok (.iconst 2, 1) := by decide +kernel
theorem dX11_readsSegment_132 : decode cX11_readsSegment 132 = .ok (.iadd, 1) := by decide +kernel
theorem dX11_readsSegment_133 : decode cX11_readsSegment 133 = .ok (.laload, 1) := by decide +kernel
theorem dX11_readsSegment_134 : decode cX11_readsSegment 134 = .ok (.l2i, 1) := by decide +kernel
theorem dX11_readsSegment_135 : decode cX11_readsSegment 135 = .ok (.iadd, 1) := by decide +kernel
theorem dX11_readsSegment_136 : decode cX11_readsSegment 136 = .ok (.iload 4, 2) := by decide +kernel
theorem dX11_readsSegment_138 : decode cX11_readsSegment 138 = .ok (.i2l, 1) := by decide +kernel
theorem dX11_readsSegment_139 : decode cX11_readsSegment 139 = .ok (.lastore, 1) := by decide +kernel
theorem dX11_readsSegment_140 : decode cX11_readsSegment 140 = .ok (.aload_n 0, 1) := by decide +kernel
theorem dX11_readsSegment_141 : decode cX11_readsSegment 141 = .ok (.getfield 13, 3) := by decide +kernel
theorem dX11_readsSegment_144 : decode cX11_readsSegment 144 = .ok (.iload_n 2, 1) := by decide +kernel
theorem dX11_readsSegment_145 : decode cX11_readsSegment 145 = .ok (.iconst 2, 1) := by decide +kernel
theorem dX11_readsSegment_146 : decode cX11_readsSegment 146 = .ok (.iadd, 1) := by decide +kernel
theorem dX11_readsSegment_147 : decode cX11_readsSegment 147 = .ok (.dup2, 1) := by decide +kernel
theorem dX11_readsSegment_148 : decode cX11_readsSegment 148 = .ok (.laload, 1) := by decide +kernel
theorem dX11_readsSegment_149 : decode cX11_readsSegment 149 = .ok (.lconst 1, 1) := by decide +kernel
theorem dX11_readsSegment_150 : decode cX11_readsSegment 150 = .ok (.ladd, 1) := by decide +kernel
theorem dX11_readsSegment_151 : decode cX11_readsSegment 151 = .ok (.lastore, 1) := by decide +kernel
theorem dX11_readsSegment_152 : decode cX11_readsSegment 152 = .ok (.aload_n 0, 1) := by decide +kernel
theorem dX11_readsSegment_153 : decode cX11_readsSegment 153 = .ok (.getfield 113, 3) := by decide +kernel
theorem dX11_readsSegment_156 : decode cX11_readsSegment 156 = .ok (.ifCond .ne 7, 3) := by decide +kernel
theorem dX11_readsSegment_159 : decode cX11_readsSegment 159 = .ok (.iconst 1, 1) := by decide +kernel
theorem dX11_readsSegment_160 : decode cX11_readsSegment 160 = .ok (.goto 4, 3) := by decide +kernel
theorem dX11_readsSegment_163 : decode cX11_readsSegment 163 = .ok (.iconst 0, 1) := by decide +kernel
theorem dX11_readsSegment_164 : decode cX11_readsSegment 164 = .ok (.istore_n 3, 1) := by decide +kernel
theorem dX11_readsSegment_165 : decode cX11_readsSegment 165 = .ok (.goto (-72), 3) := by decide +kernel
theorem dX11_readsSegment_168 : decode cX11_readsSegment 168 = .ok (.aload_n 0, 1) := by decide +kernel
theorem dX11_readsSegment_169 : decode cX11_readsSegment 169 = .ok (.aload_n 0, 1) := by decide +kernel
theorem dX11_readsSegment_170 : decode cX11_readsSegment 170 = .ok (.bipush 59, 2) := by decide +kernel
theorem dX11_readsSegment_172 : decode cX11_readsSegment 172 = .ok (.invokevirtual 178, 3) := by decide +kernel
theorem dX11_readsSegment_175 : decode cX11_readsSegment 175 = .ok (.invokevirtual 166, 3) := by decide +kernel
theorem dX11_readsSegment_178 : decode cX11_readsSegment 178 = .ok (.aload_n 0, 1) := by decide +kernel
theorem dX11_readsSegment_179 : decode cX11_readsSegment 179 = .ok (.getfield 131, 3) := by decide +kernel
theorem dX11_readsSegment_182 : decode cX11_readsSegment 182 = .ok (.ifCond .eq 4, 3) := by decide +kernel
theorem dX11_readsSegment_185 : decode cX11_readsSegment 185 = .ok (.return_, 1) := by decide +kernel
theorem dX11_readsSegment_186 : decode cX11_readsSegment 186 = .ok (.aload_n 0, 1) := by decide +kernel
theorem dX11_readsSegment_187 : decode cX11_readsSegment 187 = .ok (.getfield 13, 3) := by decide +kernel
theorem dX11_readsSegment_190 : decode cX11_readsSegment 190 = .ok (.iload_n 2, 1) := by decide +kernel
theorem dX11_readsSegment_191 : decode cX11_readsSegment 191 = .ok (.bipush 11, 2) := by decide +kernel
theorem dX11_readsSegment_193 : decode cX11_readsSegment 193 = .ok (.iadd, 1) := by decide +kernel
theorem dX11_readsSegment_194 : decode cX11_readsSegment 194 = .ok (.aload_n 0, 1) := by decide +kernel
theorem dX11_readsSegment_195 : decode cX11_readsSegment 195 = .ok (.getfield 13, 3) := by decide +kernel
theorem dX11_readsSegment_198 : decode cX11_readsSegment 198 = .ok (.bipush 9, 2) := by decide +kernel
theorem dX11_readsSegment_200 : decode cX11_readsSegment 200 = .ok (.laload, 1) := by decide +kernel
theorem dX11_readsSegment_201 : decode cX11_readsSegment 201 = .ok (.lastore, 1) := by decide +kernel
theorem dX11_readsSegment_202 : decode cX11_readsSegment 202 = .ok (.aload_n 0, 1) := by decide +kernel
theorem dX11_readsSegment_203 : decode cX11_readsSegment 203 = .ok (.getfield 13, 3) := by decide +kernel
theorem dX11_readsSegment_206 : decode cX11_readsSegment 206 = .ok (.bipush 9, 2) := by decide +kernel
theorem dX11_readsSegment_208 : decode cX11_readsSegment 208 = .ok (.dup2, 1) := by decide +kernel
theorem dX11_readsSegment_209 : decode cX11_readsSegment 209 = .ok (.laload, 1) := by decide +kernel
theorem dX11_readsSegment_210 : decode cX11_readsSegment 210 = .ok (.lconst 1, 1) := by decide +kernel
theorem dX11_readsSegment_211 : decode cX11_readsSegment 211 = .ok (.ladd, 1) := by decide +kernel
theorem dX11_readsSegment_212 : decode cX11_readsSegment 212 = .ok (.lastore, 1) := by decide +kernel
theorem dX11_readsSegment_213 : decode cX11_readsSegment 213 = .ok (.aload_n 0, 1) := by decide +kernel
theorem dX11_readsSegment_214 : decode cX11_readsSegment 214 = .ok (.getfield 13, 3) := by decide +kernel
theorem dX11_readsSegment_217 : decode cX11_readsSegment 217 = .ok (.bipush 6, 2) := by decide +kernel
theorem dX11_readsSegment_219 : decode cX11_readsSegment 219 = .ok (.dup2, 1) := by decide +kernel
theorem dX11_readsSegment_220 : decode cX11_readsSegment 220 = .ok (.laload, 1) := by decide +kernel
theorem dX11_readsSegment_221 : decode cX11_readsSegment 221 = .ok (.lconst 1, 1) := by decide +kernel
theorem dX11_readsSegment_222 : decode cX11_readsSegment 222 = .ok (.ladd, 1) := by decide +kernel
theorem dX11_readsSegment_223 : decode cX11_readsSegment 223 = .ok (.lastore, 1) := by decide +kernel
theorem dX11_readsSegment_224 : decode cX11_readsSegment 224 = .ok (.return_, 1) := by decide +kernel
theorem dX11_putsSlot_0 : decode cX11_putsSlot 0 = .ok (.iconst 0, 1) := by decide +kernel
theorem dX11_putsSlot_1 : decode cX11_putsSlot 1 = .ok (.istore 4, 2) := by decide +kernel
theorem dX11_putsSlot_3 : decode cX11_putsSlot 3 = .ok (.iload 4, 2) := by decide +kernel
theorem dX11_putsSlot_5 : decode cX11_putsSlot 5 = .ok (.i2l, 1) := by decide +kernel
theorem dX11_putsSlot_6 : decode cX11_putsSlot 6 = .ok (.aload_n 0, 1) := by decide +kernel
theorem dX11_putsSlot_7 : decode cX11_putsSlot 7 = .ok (.bipush 8, 2) := by decide +kernel
theorem dX11_putsSlot_9 : decode cX11_putsSlot 9 = .ok (.laload, 1) := by decide +kernel
theorem dX11_putsSlot_10 : decode cX11_putsSlot 10 = .ok (.lcmp, 1) := by decide +kernel
theorem dX11_putsSlot_11 : decode cX11_putsSlot 11 = .ok (.ifCond .ge 25, 3) := by decide +kernel
theorem dX11_putsSlot_14 : decode cX11_putsSlot 14 = .ok (.aload_n 0, 1) := by decide +kernel
theorem dX11_putsSlot_15 : decode cX11_putsSlot 15 = .ok (.sipush 394, 3) := by decide +kernel
theorem dX11_putsSlot_18 : decode cX11_putsSlot 18 = .ok (.iconst 3, 1) := by decide +kernel
theorem dX11_putsSlot_19 : decode cX11_putsSlot 19 = .ok (.iload 4, 2) := by decide +kernel
theorem dX11_putsSlot_21 : decode cX11_putsSlot 21 = .ok (.imul, 1) := by decide +kernel
theorem dX11_putsSlot_22 : decode cX11_putsSlot 22 = .ok (.iadd, 1) := by decide +kernel
theorem dX11_putsSlot_23 : decode cX11_putsSlot 23 = .ok (.laload, 1) := by decide +kernel
theorem dX11_putsSlot_24 : decode cX11_putsSlot 24 = .ok (.iload_n 1, 1) := by decide +kernel
theorem dX11_putsSlot_25 : decode cX11_putsSlot 25 = .ok (.i2l, 1) := by decide +kernel
theorem dX11_putsSlot_26 : decode cX11_putsSlot 26 = .ok (.lcmp, 1) := by decide +kernel
theorem dX11_putsSlot_27 : decode cX11_putsSlot 27 = .ok (.ifCond .gt 9, 3) := by decide +kernel
theorem dX11_putsSlot_30 : decode cX11_putsSlot 30 = .ok (.iinc 4 1, 3) := by decide +kernel
theorem dX11_putsSlot_33 : decode cX11_putsSlot 33 = .ok (.goto (-30), 3) := by decide +kernel
theorem dX11_putsSlot_36 : decode cX11_putsSlot 36 = .ok (.sipush 394, 3) := by decide +kernel
theorem dX11_putsSlot_39 : decode cX11_putsSlot 39 = .ok (.iconst 3, 1) := by decide +kernel
theorem dX11_putsSlot_40 : decode cX11_putsSlot 40 = .ok (.aload_n 0, 1) := by decide +kernel
theorem dX11_putsSlot_41 : decode cX11_putsSlot 41 = .ok (.bipush 8, 2) := by decide +kernel
theorem dX11_putsSlot_43 : decode cX11_putsSlot 43 = .ok (.laload, 1) := by decide +kernel
theorem dX11_putsSlot_44 : decode cX11_putsSlot 44 = .ok (.l2i, 1) := by decide +kernel
theorem dX11_putsSlot_45 : decode cX11_putsSlot 45 = .ok (.imul, 1) := by decide +kernel
theorem dX11_putsSlot_46 : decode cX11_putsSlot 46 = .ok (.iadd, 1) := by decide +kernel
theorem dX11_putsSlot_47 : decode cX11_putsSlot 47 = .ok (.iconst 1, 1) := by decide +kernel
theorem dX11_putsSlot_48 : decode cX11_putsSlot 48 = .ok (.isub, 1) := by decide +kernel
theorem dX11_putsSlot_49 : decode cX11_putsSlot 49 = .ok (.istore 5, 2) := by decide +kernel
theorem dX11_putsSlot_51 : decode cX11_putsSlot 51 = .ok (.iload 5, 2) := by decide +kernel
theorem dX11_putsSlot_53 : decode cX11_putsSlot 53 = .ok (.sipush 394, 3) := by decide +kernel
theorem dX11_putsSlot_56 : decode cX11_putsSlot 56 = .ok (.iconst 3, 1) := by decide +kernel
theorem dX11_putsSlot_57 : decode cX11_putsSlot 57 = .ok (.iload 4, 2) := by decide +kernel
theorem dX11_putsSlot_59 : decode cX11_putsSlot 59 = .ok (.imul, 1) := by decide +kernel
theorem dX11_putsSlot_60 : decode cX11_putsSlot 60 = .ok (.iadd, 1) := by decide +kernel
theorem dX11_putsSlot_61 : decode cX11_putsSlot 61 = .ok (.if_icmp .lt 19, 3) := by decide +kernel
theorem dX11_putsSlot_64 : decode cX11_putsSlot 64 = .ok (.aload_n 0, 1) := by decide +kernel
theorem dX11_putsSlot_65 : decode cX11_putsSlot 65 = .ok (.iload 5, 2) := by decide +kernel
theorem dX11_putsSlot_67 : decode cX11_putsSlot 67 = .ok (.iconst 3, 1) := by decide +kernel
theorem dX11_putsSlot_68 : decode cX11_putsSlot 68 = .ok (.iadd, 1) := by decide +kernel
theorem dX11_putsSlot_69 : decode cX11_putsSlot 69 = .ok (.aload_n 0, 1) := by decide +kernel
theorem dX11_putsSlot_70 : decode cX11_putsSlot 70 = .ok (.iload 5, 2) := by decide +kernel
theorem dX11_putsSlot_72 : decode cX11_putsSlot 72 = .ok (.laload, 1) := by decide +kernel
theorem dX11_putsSlot_73 : decode cX11_putsSlot 73 = .ok (.lastore, 1) := by decide +kernel
theorem dX11_putsSlot_74 : decode cX11_putsSlot 74 = .ok (.iinc 5 (-1), 3) := by decide +kernel
theorem dX11_putsSlot_77 : decode cX11_putsSlot 77 = .ok (.goto (-26), 3) := by decide +kernel
theorem dX11_putsSlot_80 : decode cX11_putsSlot 80 = .ok (.aload_n 0, 1) := by decide +kernel
theorem dX11_putsSlot_81 : decode cX11_putsSlot 81 = .ok (.sipush 394, 3) := by decide +kernel
theorem dX11_putsSlot_84 : decode cX11_putsSlot 84 = .ok (.iconst 3, 1) := by decide +kernel
theorem dX11_putsSlot_85 : decode cX11_putsSlot 85 = .ok (.iload 4, 2) := by decide +kernel
theorem dX11_putsSlot_87 : decode cX11_putsSlot 87 = .ok (.imul, 1) := by decide +kernel
theorem dX11_putsSlot_88 : decode cX11_putsSlot 88 = .ok (.iadd, 1) := by decide +kernel
theorem dX11_putsSlot_89 : decode cX11_putsSlot 89 = .ok (.iload_n 1, 1) := by decide +kernel
theorem dX11_putsSlot_90 : decode cX11_putsSlot 90 = .ok (.i2l, 1) := by decide +kernel
theorem dX11_putsSlot_91 : decode cX11_putsSlot 91 = .ok (.lastore, 1) := by decide +kernel
theorem dX11_putsSlot_92 : decode cX11_putsSlot 92 = .ok (.aload_n 0, 1) := by decide +kernel
theorem dX11_putsSlot_93 : decode cX11_putsSlot 93 = .ok (.sipush 394, 3) := by decide +kernel
theorem dX11_putsSlot_96 : decode cX11_putsSlot 96 = .ok (.iconst 3, 1) := by decide +kernel
theorem dX11_putsSlot_97 : decode cX11_putsSlot 97 = .ok (.iload 4, 2) := by decide +kernel
theorem dX11_putsSlot_99 : decode cX11_putsSlot 99 = .ok (.imul, 1) := by decide +kernel
theorem dX11_putsSlot_100 : decode cX11_putsSlot 100 = .ok (.iadd, 1) := by decide +kernel
theorem dX11_putsSlot_101 : decode cX11_putsSlot 101 = .ok (.iconst 1, 1) := by decide +kernel
theorem dX11_putsSlot_102 : decode cX11_putsSlot 102 = .ok (.iadd, 1) := by decide +kernel
theorem dX11_putsSlot_103 : decode cX11_putsSlot 103 = .ok (.iload_n 2, 1) := by decide +kernel
theorem dX11_putsSlot_104 : decode cX11_putsSlot 104 = .ok (.i2l, 1) := by decide +kernel
theorem dX11_putsSlot_105 : decode cX11_putsSlot 105 = .ok (.lastore, 1) := by decide +kernel
theorem dX11_putsSlot_106 : decode cX11_putsSlot 106 = .ok (.aload_n 0, 1) := by decide +kernel
theorem dX11_putsSlot_107 : decode cX11_putsSlot 107 = .ok (.sipush 394, 3) := by decide +kernel
theorem dX11_putsSlot_110 : decode cX11_putsSlot 110 = .ok (.iconst 3, 1) := by decide +kernel
theorem dX11_putsSlot_111 : decode cX11_putsSlot 111 = .ok (.iload 4, 2) := by decide +kernel
theorem dX11_putsSlot_113 : decode cX11_putsSlot 113 = .ok (.imul, 1) := by decide +kernel
theorem dX11_putsSlot_114 : decode cX11_putsSlot 114 = .ok (.iadd, 1) := by decide +kernel
theorem dX11_putsSlot_115 : decode cX11_putsSlot 115 = .ok (.iconst 2, 1) := by decide +kernel
theorem dX11_putsSlot_116 : decode cX11_putsSlot 116 = .ok (.iadd, 1) := by decide +kernel
theorem dX11_putsSlot_117 : decode cX11_putsSlot 117 = .ok (.iload_n 3, 1) := by decide +kernel
theorem dX11_putsSlot_118 : decode cX11_putsSlot 118 = .ok (.i2l, 1) := by decide +kernel
theorem dX11_putsSlot_119 : decode cX11_putsSlot 119 = .ok (.lastore, 1) := by decide +kernel
theorem dX11_putsSlot_120 : decode cX11_putsSlot 120 = .ok (.aload_n 0, 1) := by decide +kernel
theorem dX11_putsSlot_121 : decode cX11_putsSlot 121 = .ok (.bipush 8, 2) := by decide +kernel
theorem dX11_putsSlot_123 : decode cX11_putsSlot 123 = .ok (.dup2, 1) := by decide +kernel
theorem dX11_putsSlot_124 : decode cX11_putsSlot 124 = .ok (.laload, 1) := by decide +kernel
theorem dX11_putsSlot_125 : decode cX11_putsSlot 125 = .ok (.lconst 1, 1) := by decide +kernel
theorem dX11_putsSlot_126 : decode cX11_putsSlot 126 = .ok (.ladd, 1) := by decide +kernel
theorem dX11_putsSlot_127 : decode cX11_putsSlot 127 = .ok (.lastore, 1) := by decide +kernel
theorem dX11_putsSlot_128 : decode cX11_putsSlot 128 = .ok (.iload 4, 2) := by decide +kernel
theorem dX11_putsSlot_130 : decode cX11_putsSlot 130 = .ok (.ireturn, 1) := by decide +kernel
set_option maxRecDepth 100000 in
theorem ggX11_readsSlot_X11_fails : GoodIn wsX11_readsSlot wsX11_fails := goodIn_r _ [8, 3, 9, 10, 107, 108, 109, 110, 111, 112, 113, 114, 115, 116, 117, 118, 119, 120, 121, 122, 123, 124, 125, 126, 127, 128, 129, 130, 131, 132, 133] rfl (by decide +kernel)
set_option maxRecDepth 100000 in
theorem gX11_readsSlot_X11_fails : GoodIn wsX11_readsSlot (wsV RX11 147 RX11 yX11_fails wsX11_fails) := goodIn_app (goodIn_of _ (by decide +kernel)) ggX11_readsSlot_X11_fails
set_option maxRecDepth 100000 in
theorem ggX11_readsSlot_X11_isWord : GoodIn wsX11_readsSlot wsX11_isWord := goodIn_r _ [14, 3, 15, 16, 9, 17, 18, 19, 20, 21, 22, 23, 24, 25, 26, 27, 28, 29, 30, 31, 32, 33, 34, 35, 36, 37, 38, 39, 40, 41, 42, 43, 44, 45, 46, 47, 48, 49, 50, 51, 52, 53, 54, 55, 56, 57, 58, 59, 60, 61, 62, 63, 64, 65, 66, 107, 108, 109, 110, 111, 112, 113, 114, 115, 116, 117, 118, 119, 120, 121, 122, 123, 124, 125, 126, 127, 128, 129, 130, 131, 132, 133] rfl (by decide +kernel)
set_option maxRecDepth 100000 in
theorem gX11_readsSlot_X11_isWord : GoodIn wsX11_readsSlot (wsV RX11 162 RX11 yX11_isWord wsX11_isWord) := goodIn_app (goodIn_of _ (by decide +kernel)) ggX11_readsSlot_X11_isWord
set_option maxRecDepth 100000 in
theorem ggX11_readsSlot_X11_must : GoodIn wsX11_readsSlot wsX11_must := goodIn_r _ [70, 3, 4, 5, 6, 7, 8, 9, 10, 71, 72, 73, 74, 16, 75, 15, 76, 77, 78, 79, 80, 81, 82, 83, 17, 84, 85, 86, 87, 88, 89, 90, 91, 92, 93, 94, 95, 107, 108, 109, 110, 111, 112, 113, 114, 115, 116, 117, 118, 119, 120, 121, 122, 123, 124, 125, 126, 127, 128, 129, 130, 131, 132, 133] rfl (by decide +kernel)
set_option maxRecDepth 100000 in
theorem gX11_readsSlot_X11_must : GoodIn wsX11_readsSlot (wsV RX11 166 RX11 yX11_must wsX11_must) := goodIn_app (goodIn_of _ (by decide +kernel)) ggX11_readsSlot_X11_must
set_option maxRecDepth 100000 in
theorem ggX11_readsSlot_X11_takes : GoodIn wsX11_readsSlot wsX11_takes := goodIn_r _ [99, 3, 15, 76, 4, 5, 6, 7, 8, 9, 10, 89, 90, 91, 71, 72, 73, 74, 16, 75, 77, 78, 79, 80, 81, 82, 83, 17, 84, 85, 86, 87, 88, 92, 93, 94, 95, 107, 108, 109, 110, 111, 112, 113, 114, 115, 116, 117, 118, 119, 120, 121, 122, 123, 124, 125, 126, 127, 128, 129, 130, 131, 132, 133] rfl (by decide +kernel)
set_option maxRecDepth 100000 in
theorem gX11_readsSlot_X11_takes : GoodIn wsX11_readsSlot (wsV RX11 170 RX11 yX11_takes wsX11_takes) := goodIn_app (goodIn_of _ (by decide +kernel)) ggX11_readsSlot_X11_takes
set_option maxRecDepth 100000 in
theorem ggX11_readsSlot_X11_isSign : GoodIn wsX11_readsSlot wsX11_isSign := goodIn_r _ [103, 3, 15, 17, 9, 107, 108, 109, 110, 111, 112, 113, 114, 115, 116, 117, 118, 119, 120, 121, 122, 123, 124, 125, 126, 127, 128, 129, 130, 131, 132, 133] rfl (by decide +kernel)
set_option maxRecDepth 100000 in
theorem gX11_readsSlot_X11_isSign : GoodIn wsX11_readsSlot (wsV RX11 178 RX11 yX11_isSign wsX11_isSign) := goodIn_app (goodIn_of _ (by decide +kernel)) ggX11_readsSlot_X11_isSign
set_option maxRecDepth 100000 in
theorem ggX11_readsSlot_X11_putsSlot : GoodIn wsX11_readsSlot wsX11_putsSlot := goodIn_r _ [106] rfl (by decide +kernel)
set_option maxRecDepth 100000 in
theorem gX11_readsSlot_X11_putsSlot : GoodIn wsX11_readsSlot (va_wsS RX11 183 yX11_putsSlot wsX11_putsSlot) := goodIn_app (goodIn_of _ (by decide +kernel)) ggX11_readsSlot_X11_putsSlot
theorem dX11_readsSlot_0 : decode cX11_readsSlot 0 = .ok (.aload_n 0, 1) := by decide +kernel
theorem dX11_readsSlot_1 : decode cX11_readsSlot 1 = .ok (.getfield 13, 3) := by decide +kernel
theorem dX11_readsSlot_4 : decode cX11_readsSlot 4 = .ok (.bipush 8, 2) := by decide +kernel
theorem dX11_readsSlot_6 : decode cX11_readsSlot 6 = .ok (.laload, 1) := by decide +kernel
theorem dX11_readsSlot_7 : decode cX11_readsSlot 7 = .ok (.ldc2_w 75, 3) := by decide +kernel
theorem dX11_readsSlot_10 : decode cX11_readsSlot 10 = .ok (.lcmp, 1) := by decide +kernel
theorem dX11_readsSlot_11 : decode cX11_readsSlot 11 = .ok (.ifCond .ne 9, 3) := by decide +kernel
theorem dX11_readsSlot_14 : decode cX11_readsSlot 14 = .ok (.aload_n 0, 1) := by decide +kernel
theorem dX11_readsSlot_15 : decode cX11_readsSlot 15 = .ok (.bipush (-4), 2) := by decide +kernel
theorem dX11_readsSlot_17 : decode cX11_readsSlot 17 = .ok (.invokevirtual 147, 3) := by decide +kernel
theorem dX11_readsSlot_20 : decode cX11_readsSlot 20 = .ok (.aload_n 0, 1) := by decide +kernel
theorem dX11_readsSlot_21 : decode cX11_readsSlot 21 = .ok (.aload_n 0, 1) := by decide +kernel
theorem dX11_readsSlot_22 : decode cX11_readsSlot 22 = .ok (.ldc 181, 2) := by decide +kernel
theorem dX11_readsSlot_24 : decode cX11_readsSlot 24 = .ok (.invokevirtual 162, 3) := by decide +kernel
theorem dX11_readsSlot_27 : decode cX11_readsSlot 27 = .ok (.invokevirtual 166, 3) := by decide +kernel
theorem dX11_readsSlot_30 : decode cX11_readsSlot 30 = .ok (.aload_n 0, 1) := by decide +kernel
theorem dX11_readsSlot_31 : decode cX11_readsSlot 31 = .ok (.iconst 0, 1) := by decide +kernel
theorem dX11_readsSlot_32 : decode cX11_readsSlot 32 = .ok (.sipush 9999, 3) := by decide +kernel
theorem dX11_readsSlot_35 : decode cX11_readsSlot 35 = .ok (.invokevirtual 170, 3) := by decide +kernel
theorem dX11_readsSlot_38 : decode cX11_readsSlot 38 = .ok (.istore_n 1, 1) := by decide +kernel
theorem dX11_readsSlot_39 : decode cX11_readsSlot 39 = .ok (.aload_n 0, 1) := by decide +kernel
theorem dX11_readsSlot_40 : decode cX11_readsSlot 40 = .ok (.iconst 1, 1) := by decide +kernel
theorem dX11_readsSlot_41 : decode cX11_readsSlot 41 = .ok (.sipush 300, 3) := by decide +kernel
theorem dX11_readsSlot_44 : decode cX11_readsSlot 44 = .ok (.invokevirtual 170, 3) := by decide +kernel
theorem dX11_readsSlot_47 : decode cX11_readsSlot 47 = .ok (.istore_n 2, 1) := by decide +kernel
theorem dX11_readsSlot_48 : decode cX11_readsSlot 48 = .ok (.aload_n 0, 1) := by decide +kernel
theorem dX11_readsSlot_49 : decode cX11_readsSlot 49 = .ok (.iconst 0, 1) := by decide +kernel
theorem dX11_readsSlot_50 : decode cX11_readsSlot 50 = .ok (.sipush 999, 3) := by decide +kernel
theorem dX11_readsSlot_53 : decode cX11_readsSlot 53 = .ok (.invokevirtual 170, 3) := by decide +kernel
theorem dX11_readsSlot_56 : decode cX11_readsSlot 56 = .ok (.istore_n 3, 1) := by decide +kernel
theorem dX11_readsSlot_57 : decode cX11_readsSlot 57 = .ok (.aload_n 0, 1) := by decide +kernel
theorem dX11_readsSlot_58 : decode cX11_readsSlot 58 = .ok (.aload_n 0, 1) := by decide +kernel
theorem dX11_readsSlot_59 : decode cX11_readsSlot 59 = .ok (.bipush 59, 2) := by decide +kernel
theorem dX11_readsSlot_61 : decode cX11_readsSlot 61 = .ok (.invokevirtual 178, 3) := by decide +kernel
theorem dX11_readsSlot_64 : decode cX11_readsSlot 64 = .ok (.invokevirtual 166, 3) := by decide +kernel
theorem dX11_readsSlot_67 : decode cX11_readsSlot 67 = .ok (.aload_n 0, 1) := by decide +kernel
theorem dX11_readsSlot_68 : decode cX11_readsSlot 68 = .ok (.getfield 131, 3) := by decide +kernel
theorem dX11_readsSlot_71 : decode cX11_readsSlot 71 = .ok (.ifCond .ne 15, 3) := by decide +kernel
theorem dX11_readsSlot_74 : decode cX11_readsSlot 74 = .ok (.aload_n 0, 1) := by decide +kernel
theorem dX11_readsSlot_75 : decode cX11_readsSlot 75 = .ok (.getfield 13, 3) := by decide +kernel
theorem dX11_readsSlot_78 : decode cX11_readsSlot 78 = .ok (.iload_n 1, 1) := by decide +kernel
theorem dX11_readsSlot_79 : decode cX11_readsSlot 79 = .ok (.iload_n 2, 1) := by decide +kernel
theorem dX11_readsSlot_80 : decode cX11_readsSlot 80 = .ok (.iload_n 3, 1) := by decide +kernel
theorem dX11_readsSlot_81 : decode cX11_readsSlot 81 = .ok (.invokestatic 183, 3) := by decide +kernel
theorem dX11_readsSlot_84 : decode cX11_readsSlot 84 = .ok (.istore 4, 2) := by decide +kernel
theorem dX11_readsSlot_86 : decode cX11_readsSlot 86 = .ok (.return_, 1) := by decide +kernel
set_option maxRecDepth 100000 in
theorem ggX11_readsSetting_X11_isWord : GoodIn wsX11_readsSetting wsX11_isWord := goodIn_r _ [7, 1, 8, 9, 10, 11, 12, 13, 14, 15, 16, 17, 18, 19, 20, 21, 22, 23, 24, 25, 26, 27, 28, 29, 30, 31, 32, 33, 34, 35, 36, 37, 38, 39, 40, 41, 42, 43, 44, 45, 46, 47, 48, 49, 50, 51, 52, 53, 54, 55, 56, 57, 58, 59, 60, 109, 110, 111, 112, 113, 114, 115, 116, 117, 118, 119, 120, 121, 122, 123, 124, 125, 126, 127, 128, 129, 130, 131, 132, 133, 134, 135] rfl (by decide +kernel)
set_option maxRecDepth 100000 in
theorem gX11_readsSetting_X11_isWord : GoodIn wsX11_readsSetting (wsV RX11 162 RX11 yX11_isWord wsX11_isWord) := goodIn_app (goodIn_of _ (by decide +kernel)) ggX11_readsSetting_X11_isWord
set_option maxRecDepth 100000 in
theorem ggX11_readsSetting_X11_must : GoodIn wsX11_readsSetting wsX11_must := goodIn_r _ [64, 1, 65, 66, 67, 6, 68, 10, 69, 70, 71, 72, 73, 9, 74, 8, 75, 76, 77, 78, 79, 80, 81, 82, 11, 83, 84, 85, 86, 87, 88, 89, 90, 91, 92, 93, 94, 109, 110, 111, 112, 113, 114, 115, 116, 117, 118, 119, 120, 121, 122, 123, 124, 125, 126, 127, 128, 129, 130, 131, 132, 133, 134, 135] rfl (by decide +kernel)
set_option maxRecDepth 100000 in
theorem gX11_readsSetting_X11_must : GoodIn wsX11_readsSetting (wsV RX11 166 RX11 yX11_must wsX11_must) := goodIn_app (goodIn_of _ (by decide +kernel)) ggX11_readsSetting_X11_must
set_option maxRecDepth 100000 in
theorem ggX11_readsSetting_X11_takes : GoodIn wsX11_readsSetting wsX11_takes := goodIn_r _ [98, 1, 8, 75, 65, 66, 67, 6, 68, 10, 69, 88, 89, 90, 70, 71, 72, 73, 9, 74, 76, 77, 78, 79, 80, 81, 82, 11, 83, 84, 85, 86, 87, 91, 92, 93, 94, 109, 110, 111, 112, 113, 114, 115, 116, 117, 118, 119, 120, 121, 122, 123, 124, 125, 126, 127, 128, 129, 130, 131, 132, 133, 134, 135] rfl (by decide +kernel)
set_option maxRecDepth 100000 in
theorem gX11_readsSetting_X11_takes : GoodIn wsX11_readsSetting (wsV RX11 170 RX11 yX11_takes wsX11_takes) := goodIn_app (goodIn_of _ (by decide +kernel)) ggX11_readsSetting_X11_takes
set_option maxRecDepth 100000 in
theorem ggX11_readsSetting_X11_low : GoodIn wsX11_readsSetting wsX11_low := goodIn_r _ [101] rfl (by decide +kernel)
set_option maxRecDepth 100000 in
theorem gX11_readsSetting_X11_low : GoodIn wsX11_readsSetting (va_wsS RX11 189 yX11_low wsX11_low) := goodIn_app (goodIn_of _ (by decide +kernel)) ggX11_readsSetting_X11_low
set_option maxRecDepth 100000 in
theorem ggX11_readsSetting_X11_high : GoodIn wsX11_readsSetting wsX11_high := goodIn_r _ [104] rfl (by decide +kernel)
set_option maxRecDepth 100000 in
theorem gX11_readsSetting_X11_high : GoodIn wsX11_readsSetting (va_wsS RX11 192 yX11_high wsX11_high) := goodIn_app (goodIn_of _ (by decide +kernel)) ggX11_readsSetting_X11_high
set_option maxRecDepth 100000 in
theorem ggX11_readsSetting_X11_isSign : GoodIn wsX11_readsSetting wsX11_isSign := goodIn_r _ [108, 1, 8, 11, 10, 109, 110, 111, 112, 113, 114, 115, 116, 117, 118, 119, 120, 121, 122, 123, 124, 125, 126, 127, 128, 129, 130, 131, 132, 133, 134, 135] rfl (by decide +kernel)
set_option maxRecDepth 100000 in
theorem gX11_readsSetting_X11_isSign : GoodIn wsX11_readsSetting (wsV RX11 178 RX11 yX11_isSign wsX11_isSign) := goodIn_app (goodIn_of _ (by decide +kernel)) ggX11_readsSetting_X11_isSign
theorem dX11_readsSetting_0 : decode cX11_readsSetting 0 = .ok (.aload_n 0, 1) := by decide +kernel
theorem dX11_readsSetting_1 : decode cX11_readsSetting 1 = .ok (.aload_n 0, 1) := by decide +kernel
theorem dX11_readsSetting_2 : decode cX11_readsSetting 2 = .ok (.ldc 187, 2) := by decide +kernel
theorem dX11_readsSetting_4 : decode cX11_readsSetting 4 = .ok (.invokevirtual 162, 3) := by decide +kernel
theorem dX11_readsSetting_7 : decode cX11_readsSetting 7 = .ok (.invokevirtual 166, 3) := by decide +kernel
theorem dX11_readsSetting_10 : decode cX11_readsSetting 10 = .ok (.aload_n 0, 1) := by decide +kernel
theorem dX11_readsSetting_11 : decode cX11_readsSetting 11 = .ok (.iconst 0, 1) := by decide +kernel
theorem dX11_readsSetting_12 : decode cX11_readsSetting 12 = .ok (.iconst 5, 1) := by decide +kernel
theorem dX11_readsSetting_13 : decode cX11_readsSetting 13 = .ok (.invokevirtual 170, 3) := by decide +kernel
theorem dX11_readsSetting_16 : decode cX11_readsSetting 16 = .ok (.istore_n 1, 1) := by decide +kernel
theorem dX11_readsSetting_17 : decode cX11_readsSetting 17 = .ok (.aload_n 0, 1) := by decide +kernel
theorem dX11_readsSetting_18 : decode cX11_readsSetting 18 = .ok (.iload_n 1, 1) := by decide +kernel
theorem dX11_readsSetting_19 : decode cX11_readsSetting 19 = .ok (.invokestatic 189, 3) := by decide +kernel
theorem dX11_readsSetting_22 : decode cX11_readsSetting 22 = .ok (.iload_n 1, 1) := by decide +kernel
theorem dX11_readsSetting_23 : decode cX11_readsSetting 23 = .ok (.invokestatic 192, 3) := by decide +kernel
theorem dX11_readsSetting_26 : decode cX11_readsSetting 26 = .ok (.invokevirtual 170, 3) := by decide +kernel
theorem dX11_readsSetting_29 : decode cX11_readsSetting 29 = .ok (.istore_n 2, 1) := by decide +kernel
theorem dX11_readsSetting_30 : decode cX11_readsSetting 30 = .ok (.aload_n 0, 1) := by decide +kernel
theorem dX11_readsSetting_31 : decode cX11_readsSetting 31 = .ok (.aload_n 0, 1) := by decide +kernel
theorem dX11_readsSetting_32 : decode cX11_readsSetting 32 = .ok (.bipush 59, 2) := by decide +kernel
theorem dX11_readsSetting_34 : decode cX11_readsSetting 34 = .ok (.invokevirtual 178, 3) := by decide +kernel
theorem dX11_readsSetting_37 : decode cX11_readsSetting 37 = .ok (.invokevirtual 166, 3) := by decide +kernel
theorem dX11_readsSetting_40 : decode cX11_readsSetting 40 = .ok (.aload_n 0, 1) := by decide +kernel
theorem dX11_readsSetting_41 : decode cX11_readsSetting 41 = .ok (.getfield 131, 3) := by decide +kernel
theorem dX11_readsSetting_44 : decode cX11_readsSetting 44 = .ok (.ifCond .ne 11, 3) := by decide +kernel
theorem dX11_readsSetting_47 : decode cX11_readsSetting 47 = .ok (.aload_n 0, 1) := by decide +kernel
theorem dX11_readsSetting_48 : decode cX11_readsSetting 48 = .ok (.getfield 13, 3) := by decide +kernel
theorem dX11_readsSetting_51 : decode cX11_readsSetting 51 = .ok (.iload_n 1, 1) := by decide +kernel
theorem dX11_readsSetting_52 : decode cX11_readsSetting 52 = .ok (.iload_n 2, 1) := by decide +kernel
theorem dX11_readsSetting_53 : decode cX11_readsSetting 53 = .ok (.i2l, 1) := by decide +kernel
theorem dX11_readsSetting_54 : decode cX11_readsSetting 54 = .ok (.lastore, 1) := by decide +kernel
theorem dX11_readsSetting_55 : decode cX11_readsSetting 55 = .ok (.return_, 1) := by decide +kernel
set_option maxRecDepth 100000 in
theorem ggX11_load_X11_isIn : GoodIn wsX11_load wsX11_isIn := goodIn_r _ [13] rfl (by decide +kernel)
set_option maxRecDepth 100000 in
theorem gX11_load_X11_isIn : GoodIn wsX11_load (va_wsS RX11 95 yX11_isIn wsX11_isIn) := goodIn_app (goodIn_of _ (by decide +kernel)) ggX11_load_X11_isIn
set_option maxRecDepth 100000 in
theorem ggX11_load_X11_begins : GoodIn wsX11_load wsX11_begins := goodIn_r _ [17, 18, 19, 20, 21, 22, 23, 24, 155, 156, 157, 158, 159, 160, 161, 162, 163, 164, 165, 166, 167, 168, 169, 170, 171, 172, 173, 174, 175, 176, 177, 178, 179, 180, 181] rfl (by decide +kernel)
set_option maxRecDepth 100000 in
theorem gX11_load_X11_begins : GoodIn wsX11_load (wsV RX11 61 RX11 yX11_begins wsX11_begins) := goodIn_app (goodIn_of _ (by decide +kernel)) ggX11_load_X11_begins
set_option maxRecDepth 100000 in
theorem ggX11_load_X11_next : GoodIn wsX11_load wsX11_next := goodIn_r _ [28, 4, 29, 3, 6, 30, 31, 32, 33, 34, 35, 36, 12, 37, 38, 39, 40, 41, 42, 43, 10, 11, 13, 44, 45, 46, 47, 155, 156, 157, 158, 159, 160, 161, 162, 163, 164, 165, 166, 167, 168, 169, 170, 171, 172, 173, 174, 175, 176, 177, 178, 179, 180, 181] rfl (by decide +kernel)
set_option maxRecDepth 100000 in
theorem gX11_load_X11_next : GoodIn wsX11_load (wsV RX11 151 RX11 yX11_next wsX11_next) := goodIn_app (goodIn_of _ (by decide +kernel)) ggX11_load_X11_next
set_option maxRecDepth 100000 in
theorem ggX11_load_X11_isWord : GoodIn wsX11_load wsX11_isWord := goodIn_r _ [51, 5, 6, 4, 29, 38, 52, 53, 54, 55, 56, 57, 58, 59, 60, 61, 62, 63, 64, 65, 66, 67, 68, 69, 70, 71, 72, 73, 74, 75, 76, 77, 78, 79, 80, 81, 82, 83, 84, 85, 86, 87, 88, 89, 90, 91, 92, 93, 94, 95, 96, 97, 98, 99, 100, 155, 156, 157, 158, 159, 160, 161, 162, 163, 164, 165, 166, 167, 168, 169, 170, 171, 172, 173, 174, 175, 176, 177, 178, 179, 180, 181] rfl (by decide +kernel)
set_option maxRecDepth 100000 in
theorem gX11_load_X11_isWord : GoodIn wsX11_load (wsV RX11 162 RX11 yX11_isWord wsX11_isWord) := goodIn_app (goodIn_of _ (by decide +kernel)) ggX11_load_X11_isWord
set_option maxRecDepth 100000 in
theorem ggX11_load_X11_readsSegment : GoodIn wsX11_load wsX11_readsSegment := goodIn_r _ [104, 18, 5, 6, 105, 106, 107, 12, 108, 29, 7, 48, 49, 50, 51, 4, 38, 52, 53, 54, 55, 56, 57, 58, 59, 60, 61, 62, 63, 64, 65, 66, 67, 68, 69, 70, 71, 72, 73, 74, 75, 76, 77, 78, 79, 80, 81, 82, 83, 84, 85, 86, 87, 88, 89, 90, 91, 92, 93, 94, 95, 96, 97, 98, 99, 100, 109, 110, 111, 112, 25, 26, 27, 28, 3, 30, 31, 32, 33, 34, 35, 36, 37, 39, 40, 41, 42, 43, 10, 11, 13, 44, 45, 46, 47, 113, 114, 115, 116, 117, 118, 119, 120, 121, 122, 123, 124, 125, 126, 127, 155, 156, 157, 158, 159, 160, 161, 162, 163, 164, 165, 166, 167, 168, 169, 170, 171, 172, 173, 174, 175, 176, 177, 178, 179, 180, 181] rfl (by decide +kernel)
set_option maxRecDepth 100000 in
theorem gX11_load_X11_readsSegment : GoodIn wsX11_load (wsV RX11 195 RX11 yX11_readsSegment wsX11_readsSegment) := goodIn_app (goodIn_of _ (by decide +kernel)) ggX11_load_X11_readsSegment
set_option maxRecDepth 100000 in
theorem ggX11_load_X11_readsSlot : GoodIn wsX11_load wsX11_readsSlot := goodIn_r _ [131, 18, 23, 5, 105, 106, 107, 12, 108, 29, 7, 48, 49, 50, 51, 6, 4, 38, 52, 53, 54, 55, 56, 57, 58, 59, 60, 61, 62, 63, 64, 65, 66, 67, 68, 69, 70, 71, 72, 73, 74, 75, 76, 77, 78, 79, 80, 81, 82, 83, 84, 85, 86, 87, 88, 89, 90, 91, 92, 93, 94, 95, 96, 97, 98, 99, 100, 109, 110, 111, 112, 25, 26, 27, 28, 3, 30, 31, 32, 33, 34, 35, 36, 37, 39, 40, 41, 42, 43, 10, 11, 13, 44, 45, 46, 47, 113, 114, 115, 116, 124, 125, 126, 127, 132, 133, 134, 155, 156, 157, 158, 159, 160, 161, 162, 163, 164, 165, 166, 167, 168, 169, 170, 171, 172, 173, 174, 175, 176, 177, 178, 179, 180, 181] rfl (by decide +kernel)
set_option maxRecDepth 100000 in
theorem gX11_load_X11_readsSlot : GoodIn wsX11_load (wsV RX11 198 RX11 yX11_readsSlot wsX11_readsSlot) := goodIn_app (goodIn_of _ (by decide +kernel)) ggX11_load_X11_readsSlot
set_option maxRecDepth 100000 in
theorem ggX11_load_X11_readsSetting : GoodIn wsX11_load wsX11_readsSetting := goodIn_r _ [138, 5, 18, 48, 49, 50, 12, 51, 6, 4, 29, 38, 52, 53, 54, 55, 56, 57, 58, 59, 60, 61, 62, 63, 64, 65, 66, 67, 68, 69, 70, 71, 72, 73, 74, 75, 76, 77, 78, 79, 80, 81, 82, 83, 84, 85, 86, 87, 88, 89, 90, 91, 92, 93, 94, 95, 96, 97, 98, 99, 100, 109, 110, 111, 112, 105, 106, 107, 108, 7, 25, 26, 27, 28, 3, 30, 31, 32, 33, 34, 35, 36, 37, 39, 40, 41, 42, 43, 10, 11, 13, 44, 45, 46, 47, 113, 114, 115, 116, 139, 140, 141, 142, 143, 144, 124, 125, 126, 127, 155, 156, 157, 158, 159, 160, 161, 162, 163, 164, 165, 166, 167, 168, 169, 170, 171, 172, 173, 174, 175, 176, 177, 178, 179, 180, 181] rfl (by decide +kernel)
set_option maxRecDepth 100000 in
theorem gX11_load_X11_readsSetting : GoodIn wsX11_load (wsV RX11 201 RX11 yX11_readsSetting wsX11_readsSetting) := goodIn_app (goodIn_of _ (by decide +kernel)) ggX11_load_X11_readsSetting
set_option maxRecDepth 100000 in
theorem ggX11_load_X11_fails : GoodIn wsX11_load wsX11_fails := goodIn_r _ [108, 5, 29, 7, 155, 156, 157, 158, 159, 160, 161, 162, 163, 164, 165, 166, 167, 168, 169, 170, 171, 172, 173, 174, 175, 176, 177, 178, 179, 180, 181] rfl (by decide +kernel)
set_option maxRecDepth 100000 in
theorem gX11_load_X11_fails : GoodIn wsX11_load (wsV RX11 147 RX11 yX11_fails wsX11_fails) := goodIn_app (goodIn_of _ (by decide +kernel)) ggX11_load_X11_fails
set_option maxRecDepth 100000 in
theorem ggX11_load_X11_keeps : GoodIn wsX11_load wsX11_keeps := goodIn_r _ [148, 149, 150, 9, 155, 156, 157, 158, 159, 160, 161, 162, 163, 164, 165, 166, 167, 168, 169, 170, 171, 172, 173, 174, 175, 176, 177, 178, 179, 180, 181] rfl (by decide +kernel)
set_option maxRecDepth 100000 in
theorem gX11_load_X11_keeps : GoodIn wsX11_load (wsV RX11 204 RX11 yX11_keeps wsX11_keeps) := goodIn_app (goodIn_of _ (by decide +kernel)) ggX11_load_X11_keeps
set_option maxRecDepth 100000 in
theorem ggX11_load_X11_becomes : GoodIn wsX11_load wsX11_becomes := goodIn_r _ [154, 9, 18, 155, 156, 157, 158, 159, 160, 161, 162, 163, 164, 165, 166, 167, 168, 169, 170, 171, 172, 173, 174, 175, 176, 177, 178, 179, 180, 181] rfl (by decide +kernel)
set_option maxRecDepth 100000 in
theorem gX11_load_X11_becomes : GoodIn wsX11_load (wsV RX11 64 RX11 yX11_becomes wsX11_becomes) := goodIn_app (goodIn_of _ (by decide +kernel)) ggX11_load_X11_becomes
theorem dX11_load_0 : decode cX11_load 0 = .ok (.aload_n 0, 1) := by decide +kernel
theorem dX11_load_1 : decode cX11_load 1 = .ok (.iload_n 1, 1) := by decide +kernel
theorem dX11_load_2 : decode cX11_load 2 = .ok (.i2l, 1) := by decide +kernel
theorem dX11_load_3 : decode cX11_load 3 = .ok (.lconst 0, 1) := by decide +kernel
theorem dX11_load_4 : decode cX11_load 4 = .ok (.aload_n 0, 1) := by decide +kernel
theorem dX11_load_5 : decode cX11_load 5 = .ok (.getfield 85, 3) := by decide +kernel
theorem dX11_load_8 : decode cX11_load 8 = .ok (.i2l, 1) := by decide +kernel
theorem dX11_load_9 : decode cX11_load 9 = .ok (.invokestatic 95, 3) := by decide +kernel
theorem dX11_load_12 : decode cX11_load 12 = .ok (.ifCond .eq 7, 3) := by decide +kernel
theorem dX11_load_15 : decode cX11_load 15 = .ok (.iconst 0, 1) := by decide +kernel
theorem dX11_load_16 : decode cX11_load 16 = .ok (.goto 4, 3) := by decide +kernel
theorem dX11_load_19 : decode cX11_load 19 = .ok (.iconst 1, 1) := by decide +kernel
theorem dX11_load_20 : decode cX11_load 20 = .ok (.putfield 79, 3) := by decide +kernel
theorem dX11_load_23 : decode cX11_load 23 = .ok (.aload_n 0, 1) := by decide +kernel
theorem dX11_load_24 : decode cX11_load 24 = .ok (.getfield 79, 3) := by decide +kernel
theorem dX11_load_27 : decode cX11_load 27 = .ok (.ifCond .le 5, 3) := by decide +kernel
theorem dX11_load_30 : decode cX11_load 30 = .ok (.iconst 0, 1) := by decide +kernel
theorem dX11_load_31 : decode cX11_load 31 = .ok (.ireturn, 1) := by decide +kernel
theorem dX11_load_32 : decode cX11_load 32 = .ok (.aload_n 0, 1) := by decide +kernel
theorem dX11_load_33 : decode cX11_load 33 = .ok (.iload_n 1, 1) := by decide +kernel
theorem dX11_load_34 : decode cX11_load 34 = .ok (.putfield 88, 3) := by decide +kernel
theorem dX11_load_37 : decode cX11_load 37 = .ok (.aload_n 0, 1) := by decide +kernel
theorem dX11_load_38 : decode cX11_load 38 = .ok (.iconst 0, 1) := by decide +kernel
theorem dX11_load_39 : decode cX11_load 39 = .ok (.putfield 85, 3) := by decide +kernel
theorem dX11_load_42 : decode cX11_load 42 = .ok (.aload_n 0, 1) := by decide +kernel
theorem dX11_load_43 : decode cX11_load 43 = .ok (.iconst 0, 1) := by decide +kernel
theorem dX11_load_44 : decode cX11_load 44 = .ok (.putfield 103, 3) := by decide +kernel
theorem dX11_load_47 : decode cX11_load 47 = .ok (.aload_n 0, 1) := by decide +kernel
theorem dX11_load_48 : decode cX11_load 48 = .ok (.iconst 0, 1) := by decide +kernel
theorem dX11_load_49 : decode cX11_load 49 = .ok (.putfield 131, 3) := by decide +kernel
theorem dX11_load_52 : decode cX11_load 52 = .ok (.aload_n 0, 1) := by decide +kernel
theorem dX11_load_53 : decode cX11_load 53 = .ok (.invokevirtual 61, 3) := by decide +kernel
theorem dX11_load_56 : decode cX11_load 56 = .ok (.aload_n 0, 1) := by decide +kernel
theorem dX11_load_57 : decode cX11_load 57 = .ok (.invokevirtual 151, 3) := by decide +kernel
theorem dX11_load_60 : decode cX11_load 60 = .ok (.aload_n 0, 1) := by decide +kernel
theorem dX11_load_61 : decode cX11_load 61 = .ok (.getfield 131, 3) := by decide +kernel
theorem dX11_load_64 : decode cX11_load 64 = .ok (.ifCond .ne 68, 3) := by decide +kernel
theorem dX11_load_67 : decode cX11_load 67 = .ok (.aload_n 0, 1) := by decide +kernel
theorem dX11_load_68 : decode cX11_load 68 = .ok (.getfield 113, 3) := by decide +kernel
theorem dX11_load_71 : decode cX11_load 71 = .ok (.iconst 3, 1) := by decide +kernel
theorem dX11_load_72 : decode cX11_load 72 = .ok (.if_icmp .eq 60, 3) := by decide +kernel
theorem dX11_load_75 : decode cX11_load 75 = .ok (.aload_n 0, 1) := by decide +kernel
theorem dX11_load_76 : decode cX11_load 76 = .ok (.ldc 160, 2) := by decide +kernel
theorem dX11_load_78 : decode cX11_load 78 = .ok (.invokevirtual 162, 3) := by decide +kernel
theorem dX11_load_81 : decode cX11_load 81 = .ok (.ifCond .eq 10, 3) := by decide +kernel
theorem dX11_load_84 : decode cX11_load 84 = .ok (.aload_n 0, 1) := by decide +kernel
theorem dX11_load_85 : decode cX11_load 85 = .ok (.invokevirtual 195, 3) := by decide +kernel
theorem dX11_load_88 : decode cX11_load 88 = .ok (.goto (-28), 3) := by decide +kernel
theorem dX11_load_91 : decode cX11_load 91 = .ok (.aload_n 0, 1) := by decide +kernel
theorem dX11_load_92 : decode cX11_load 92 = .ok (.ldc 181, 2) := by decide +kernel
theorem dX11_load_94 : decode cX11_load 94 = .ok (.invokevirtual 162, 3) := by decide +kernel
theorem dX11_load_97 : decode cX11_load 97 = .ok (.ifCond .eq 10, 3) := by decide +kernel
theorem dX11_load_100 : decode cX11_load 100 = .ok (.aload_n 0, 1) := by decide +kernel
theorem dX11_load_101 : decode cX11_load 101 = .ok (.invokevirtual 198, 3) := by decide +kernel
theorem dX11_load_104 : decode cX11_load 104 = .ok (.goto (-44), 3) := by decide +kernel
theorem dX11_load_107 : decode cX11_load 107 = .ok (.aload_n 0, 1) := by decide +kernel
theorem dX11_load_108 : decode cX11_load 108 = .ok (.ldc 187, 2) := by decide +kernel
theorem dX11_load_110 : decode cX11_load 110 = .ok (.invokevirtual 162, 3) := by decide +kernel
theorem dX11_load_113 : decode cX11_load 113 = .ok (.ifCond .eq 10, 3) := by decide +kernel
theorem dX11_load_116 : decode cX11_load 116 = .ok (.aload_n 0, 1) := by decide +kernel
theorem dX11_load_117 : decode cX11_load 117 = .ok (.invokevirtual 201, 3) := by decide +kernel
theorem dX11_load_120 : decode cX11_load 120 = .ok (.goto (-60), 3) := by decide +kernel
theorem dX11_load_123 : decode cX11_load 123 = .ok (.aload_n 0, 1) := by decide +kernel
theorem dX11_load_124 : decode cX11_load 124 = .ok (.bipush (-2), 2) := by decide +kernel
theorem dX11_load_126 : decode cX11_load 126 = .ok (.invokevirtual 147, 3) := by decide +kernel
theorem dX11_load_129 : decode cX11_load 129 = .ok (.goto (-69), 3) := by decide +kernel
theorem dX11_load_132 : decode cX11_load 132 = .ok (.aload_n 0, 1) := by decide +kernel
theorem dX11_load_133 : decode cX11_load 133 = .ok (.aload_n 0, 1) := by decide +kernel
theorem dX11_load_134 : decode cX11_load 134 = .ok (.getfield 131, 3) := by decide +kernel
theorem dX11_load_137 : decode cX11_load 137 = .ok (.ifCond .ne 7, 3) := by decide +kernel
theorem dX11_load_140 : decode cX11_load 140 = .ok (.iconst (-1), 1) := by decide +kernel
theorem dX11_load_141 : decode cX11_load 141 = .ok (.goto 7, 3) := by decide +kernel
theorem dX11_load_144 : decode cX11_load 144 = .ok (.aload_n 0, 1) := by decide +kernel
theorem dX11_load_145 : decode cX11_load 145 = .ok (.getfield 144, 3) := by decide +kernel
theorem dX11_load_148 : decode cX11_load 148 = .ok (.putfield 23, 3) := by decide +kernel
theorem dX11_load_151 : decode cX11_load 151 = .ok (.aload_n 0, 1) := by decide +kernel
theorem dX11_load_152 : decode cX11_load 152 = .ok (.getfield 131, 3) := by decide +kernel
theorem dX11_load_155 : decode cX11_load 155 = .ok (.ifCond .eq 8, 3) := by decide +kernel
theorem dX11_load_158 : decode cX11_load 158 = .ok (.aload_n 0, 1) := by decide +kernel
theorem dX11_load_159 : decode cX11_load 159 = .ok (.getfield 131, 3) := by decide +kernel
theorem dX11_load_162 : decode cX11_load 162 = .ok (.ireturn, 1) := by decide +kernel
theorem dX11_load_163 : decode cX11_load 163 = .ok (.aload_n 0, 1) := by decide +kernel
theorem dX11_load_164 : decode cX11_load 164 = .ok (.invokevirtual 204, 3) := by decide +kernel
theorem dX11_load_167 : decode cX11_load 167 = .ok (.aload_n 0, 1) := by decide +kernel
theorem dX11_load_168 : decode cX11_load 168 = .ok (.invokevirtual 64, 3) := by decide +kernel
theorem dX11_load_171 : decode cX11_load 171 = .ok (.aload_n 0, 1) := by decide +kernel
theorem dX11_load_172 : decode cX11_load 172 = .ok (.getfield 9, 3) := by decide +kernel
theorem dX11_load_175 : decode cX11_load 175 = .ok (.bipush 6, 2) := by decide +kernel
theorem dX11_load_177 : decode cX11_load 177 = .ok (.laload, 1) := by decide +kernel
theorem dX11_load_178 : decode cX11_load 178 = .ok (.l2i, 1) := by decide +kernel
theorem dX11_load_179 : decode cX11_load 179 = .ok (.ireturn, 1) := by decide +kernel
theorem dX11_errorPosition_0 : decode cX11_errorPosition 0 = .ok (.aload_n 0, 1) := by decide +kernel
theorem dX11_errorPosition_1 : decode cX11_errorPosition 1 = .ok (.iconst 0, 1) := by decide +kernel
theorem dX11_errorPosition_2 : decode cX11_errorPosition 2 = .ok (.putfield 79, 3) := by decide +kernel
theorem dX11_errorPosition_5 : decode cX11_errorPosition 5 = .ok (.aload_n 0, 1) := by decide +kernel
theorem dX11_errorPosition_6 : decode cX11_errorPosition 6 = .ok (.getfield 23, 3) := by decide +kernel
theorem dX11_errorPosition_9 : decode cX11_errorPosition 9 = .ok (.ireturn, 1) := by decide +kernel
theorem dX11_many_0 : decode cX11_many 0 = .ok (.aload_n 0, 1) := by decide +kernel
theorem dX11_many_1 : decode cX11_many 1 = .ok (.getfield 9, 3) := by decide +kernel
theorem dX11_many_4 : decode cX11_many 4 = .ok (.bipush 6, 2) := by decide +kernel
theorem dX11_many_6 : decode cX11_many 6 = .ok (.laload, 1) := by decide +kernel
theorem dX11_many_7 : decode cX11_many 7 = .ok (.l2i, 1) := by decide +kernel
theorem dX11_many_8 : decode cX11_many 8 = .ok (.ireturn, 1) := by decide +kernel
theorem dX11_of_0 : decode cX11_of 0 = .ok (.aload_n 0, 1) := by decide +kernel
theorem dX11_of_1 : decode cX11_of 1 = .ok (.getfield 9, 3) := by decide +kernel
theorem dX11_of_4 : decode cX11_of 4 = .ok (.bipush 10, 2) := by decide +kernel
theorem dX11_of_6 : decode cX11_of 6 = .ok (.bipush 12, 2) := by decide +kernel
theorem dX11_of_8 : decode cX11_of 8 = .ok (.iload_n 1, 1) := by decide +kernel
theorem dX11_of_9 : decode cX11_of 9 = .ok (.imul, 1) := by decide +kernel
theorem dX11_of_10 : decode cX11_of 10 = .ok (.iadd, 1) := by decide +kernel
theorem dX11_of_11 : decode cX11_of 11 = .ok (.iload_n 2, 1) := by decide +kernel
theorem dX11_of_12 : decode cX11_of 12 = .ok (.iadd, 1) := by decide +kernel
theorem dX11_of_13 : decode cX11_of 13 = .ok (.laload, 1) := by decide +kernel
theorem dX11_of_14 : decode cX11_of 14 = .ok (.l2i, 1) := by decide +kernel
theorem dX11_of_15 : decode cX11_of 15 = .ok (.ireturn, 1) := by decide +kernel
set_option maxRecDepth 100000 in
theorem ggX11_isSegment_X11_many : GoodIn wsX11_isSegment wsX11_many := goodIn_r _ [5, 6, 10, 11, 12, 13, 14, 15, 16, 17, 18, 19, 20, 21, 22, 23, 24, 25, 26, 27, 28, 29, 30, 31, 32, 33, 34, 35, 36] rfl (by decide +kernel)
set_option maxRecDepth 100000 in
theorem gX11_isSegment_X11_many : GoodIn wsX11_isSegment (wsV RX11 207 RX11 yX11_many wsX11_many) := goodIn_app (goodIn_of _ (by decide +kernel)) ggX11_isSegment_X11_many
set_option maxRecDepth 100000 in
theorem ggX11_isSegment_X11_isIn : GoodIn wsX11_isSegment wsX11_isIn := goodIn_r _ [9] rfl (by decide +kernel)
set_option maxRecDepth 100000 in
theorem gX11_isSegment_X11_isIn : GoodIn wsX11_isSegment (va_wsS RX11 95 yX11_isIn wsX11_isIn) := goodIn_app (goodIn_of _ (by decide +kernel)) ggX11_isSegment_X11_isIn
theorem dX11_isSegment_0 : decode cX11_isSegment 0 = .ok (.iload_n 1, 1) := by decide +kernel
theorem dX11_isSegment_1 : decode cX11_isSegment 1 = .ok (.i2l, 1) := by decide +kernel
theorem dX11_isSegment_2 : decode cX11_isSegment 2 = .ok (.lconst 0, 1) := by decide +kernel
theorem dX11_isSegment_3 : decode cX11_isSegment 3 = .ok (.aload_n 0, 1) := by decide +kernel
theorem dX11_isSegment_4 : decode cX11_isSegment 4 = .ok (.invokevirtual 207, 3) := by decide +kernel
theorem dX11_isSegment_7 : decode cX11_isSegment 7 = .ok (.iconst 1, 1) := by decide +kernel
theorem dX11_isSegment_8 : decode cX11_isSegment 8 = .ok (.isub, 1) := by decide +kernel
theorem dX11_isSegment_9 : decode cX11_isSegment 9 = .ok (.i2l, 1) := by decide +kernel
theorem dX11_isSegment_10 : decode cX11_isSegment 10 = .ok (.invokestatic 95, 3) := by decide +kernel
theorem dX11_isSegment_13 : decode cX11_isSegment 13 = .ok (.ireturn, 1) := by decide +kernel
set_option maxRecDepth 100000 in
theorem ggX11_isBoundary_X11_many : GoodIn wsX11_isBoundary wsX11_many := goodIn_r _ [5, 6, 10, 11, 12, 13, 14, 15, 16, 17, 18, 19, 20, 21, 22, 23, 24, 25, 26, 27, 28, 29, 30, 31, 32, 33, 34, 35, 36] rfl (by decide +kernel)
set_option maxRecDepth 100000 in
theorem gX11_isBoundary_X11_many : GoodIn wsX11_isBoundary (wsV RX11 207 RX11 yX11_many wsX11_many) := goodIn_app (goodIn_of _ (by decide +kernel)) ggX11_isBoundary_X11_many
set_option maxRecDepth 100000 in
theorem ggX11_isBoundary_X11_isIn : GoodIn wsX11_isBoundary wsX11_isIn := goodIn_r _ [9] rfl (by decide +kernel)
set_option maxRecDepth 100000 in
theorem gX11_isBoundary_X11_isIn : GoodIn wsX11_isBoundary (va_wsS RX11 95 yX11_isIn wsX11_isIn) := goodIn_app (goodIn_of _ (by decide +kernel)) ggX11_isBoundary_X11_isIn
theorem dX11_isBoundary_0 : decode cX11_isBoundary 0 = .ok (.iload_n 1, 1) := by decide +kernel
theorem dX11_isBoundary_1 : decode cX11_isBoundary 1 = .ok (.i2l, 1) := by decide +kernel
theorem dX11_isBoundary_2 : decode cX11_isBoundary 2 = .ok (.lconst 0, 1) := by decide +kernel
theorem dX11_isBoundary_3 : decode cX11_isBoundary 3 = .ok (.aload_n 0, 1) := by decide +kernel
theorem dX11_isBoundary_4 : decode cX11_isBoundary 4 = .ok (.invokevirtual 207, 3) := by decide +kernel
theorem dX11_isBoundary_7 : decode cX11_isBoundary 7 = .ok (.iconst 2, 1) := by decide +kernel
theorem dX11_isBoundary_8 : decode cX11_isBoundary 8 = .ok (.isub, 1) := by decide +kernel
theorem dX11_isBoundary_9 : decode cX11_isBoundary 9 = .ok (.i2l, 1) := by decide +kernel
theorem dX11_isBoundary_10 : decode cX11_isBoundary 10 = .ok (.invokestatic 95, 3) := by decide +kernel
theorem dX11_isBoundary_13 : decode cX11_isBoundary 13 = .ok (.ireturn, 1) := by decide +kernel
set_option maxRecDepth 100000 in
theorem ggX11_isKnown_X11_isIn : GoodIn wsX11_isKnown wsX11_isIn := goodIn_r _ [5] rfl (by decide +kernel)
set_option maxRecDepth 100000 in
theorem gX11_isKnown_X11_isIn : GoodIn wsX11_isKnown (va_wsS RX11 95 yX11_isIn wsX11_isIn) := goodIn_app (goodIn_of _ (by decide +kernel)) ggX11_isKnown_X11_isIn
theorem dX11_isKnown_0 : decode cX11_isKnown 0 = .ok (.iload_n 1, 1) := by decide +kernel
theorem dX11_isKnown_1 : decode cX11_isKnown 1 = .ok (.i2l, 1) := by decide +kernel
theorem dX11_isKnown_2 : decode cX11_isKnown 2 = .ok (.lconst 0, 1) := by decide +kernel
theorem dX11_isKnown_3 : decode cX11_isKnown 3 = .ok (.aload_n 0, 1) := by decide +kernel
theorem dX11_isKnown_4 : decode cX11_isKnown 4 = .ok (.getfield 9, 3) := by decide +kernel
theorem dX11_isKnown_7 : decode cX11_isKnown 7 = .ok (.bipush 7, 2) := by decide +kernel
theorem dX11_isKnown_9 : decode cX11_isKnown 9 = .ok (.laload, 1) := by decide +kernel
theorem dX11_isKnown_10 : decode cX11_isKnown 10 = .ok (.lconst 1, 1) := by decide +kernel
theorem dX11_isKnown_11 : decode cX11_isKnown 11 = .ok (.lsub, 1) := by decide +kernel
theorem dX11_isKnown_12 : decode cX11_isKnown 12 = .ok (.invokestatic 95, 3) := by decide +kernel
theorem dX11_isKnown_15 : decode cX11_isKnown 15 = .ok (.ireturn, 1) := by decide +kernel
set_option maxRecDepth 100000 in
theorem ggX11_spoken_X11_of : GoodIn wsX11_spoken wsX11_of := goodIn_r _ [5, 6, 7, 8, 9, 10, 11, 12, 13, 14, 15, 16, 17, 18, 19, 20, 21, 22, 23, 24, 25, 26, 27, 28, 29, 30, 31, 32, 33] rfl (by decide +kernel)
set_option maxRecDepth 100000 in
theorem gX11_spoken_X11_of : GoodIn wsX11_spoken (wsV RX11 210 RX11 yX11_of wsX11_of) := goodIn_app (goodIn_of _ (by decide +kernel)) ggX11_spoken_X11_of
theorem dX11_spoken_0 : decode cX11_spoken 0 = .ok (.iconst 0, 1) := by decide +kernel
theorem dX11_spoken_1 : decode cX11_spoken 1 = .ok (.istore_n 2, 1) := by decide +kernel
theorem dX11_spoken_2 : decode cX11_spoken 2 = .ok (.iconst 0, 1) := by decide +kernel
theorem dX11_spoken_3 : decode cX11_spoken 3 = .ok (.istore_n 3, 1) := by decide +kernel
theorem dX11_spoken_4 : decode cX11_spoken 4 = .ok (.iload_n 3, 1) := by decide +kernel
theorem dX11_spoken_5 : decode cX11_spoken 5 = .ok (.iload_n 1, 1) := by decide +kernel
theorem dX11_spoken_6 : decode cX11_spoken 6 = .ok (.if_icmp .ge 18, 3) := by decide +kernel
theorem dX11_spoken_9 : decode cX11_spoken 9 = .ok (.iload_n 2, 1) := by decide +kernel
theorem dX11_spoken_10 : decode cX11_spoken 10 = .ok (.aload_n 0, 1) := by decide +kernel
theorem dX11_spoken_11 : decode cX11_spoken 11 = .ok (.iload_n 3, 1) := by decide +kernel
theorem dX11_spoken_12 : decode cX11_spoken 12 = .ok (.iconst 0, 1) := by decide +kernel
theorem dX11_spoken_13 : decode cX11_spoken 13 = .ok (.invokevirtual 210, 3) := by decide +kernel
theorem dX11_spoken_16 : decode cX11_spoken 16 = .ok (.iadd, 1) := by decide +kernel
theorem dX11_spoken_17 : decode cX11_spoken 17 = .ok (.istore_n 2, 1) := by decide +kernel
theorem dX11_spoken_18 : decode cX11_spoken 18 = .ok (.iinc 3 1, 3) := by decide +kernel
theorem dX11_spoken_21 : decode cX11_spoken 21 = .ok (.goto (-17), 3) := by decide +kernel
theorem dX11_spoken_24 : decode cX11_spoken 24 = .ok (.iload_n 2, 1) := by decide +kernel
theorem dX11_spoken_25 : decode cX11_spoken 25 = .ok (.ireturn, 1) := by decide +kernel
set_option maxRecDepth 100000 in
theorem ggX11_wordsOfAll_X11_many : GoodIn wsX11_wordsOfAll wsX11_many := goodIn_r _ [5, 6, 11, 12, 13, 14, 15, 16, 17, 18, 19, 20, 21, 22, 23, 24, 25, 26, 27, 28, 29, 30, 31, 32, 33, 34, 35, 36, 37] rfl (by decide +kernel)
set_option maxRecDepth 100000 in
theorem gX11_wordsOfAll_X11_many : GoodIn wsX11_wordsOfAll (wsV RX11 207 RX11 yX11_many wsX11_many) := goodIn_app (goodIn_of _ (by decide +kernel)) ggX11_wordsOfAll_X11_many
set_option maxRecDepth 100000 in
theorem ggX11_wordsOfAll_X11_of : GoodIn wsX11_wordsOfAll wsX11_of := goodIn_r _ [10, 6, 11, 12, 13, 14, 15, 16, 17, 18, 19, 20, 21, 22, 23, 24, 25, 26, 27, 28, 29, 30, 31, 32, 33, 34, 35, 36, 37] rfl (by decide +kernel)
set_option maxRecDepth 100000 in
theorem gX11_wordsOfAll_X11_of : GoodIn wsX11_wordsOfAll (wsV RX11 210 RX11 yX11_of wsX11_of) := goodIn_app (goodIn_of _ (by decide +kernel)) ggX11_wordsOfAll_X11_of
theorem dX11_wordsOfAll_0 : decode cX11_wordsOfAll 0 = .ok (.iconst 0, 1) := by decide +kernel
theorem dX11_wordsOfAll_1 : decode cX11_wordsOfAll 1 = .ok (.istore_n 1, 1) := by decide +kernel
theorem dX11_wordsOfAll_2 : decode cX11_wordsOfAll 2 = .ok (.iconst 0, 1) := by decide +kernel
theorem dX11_wordsOfAll_3 : decode cX11_wordsOfAll 3 = .ok (.istore_n 2, 1) := by decide +kernel
theorem dX11_wordsOfAll_4 : decode cX11_wordsOfAll 4 = .ok (.iload_n 2, 1) := by decide +kernel
theorem dX11_wordsOfAll_5 : decode cX11_wordsOfAll 5 = .ok (.aload_n 0, 1) := by decide +kernel
theorem dX11_wordsOfAll_6 : decode cX11_wordsOfAll 6 = .ok (.invokevirtual 207, 3) := by decide +kernel
theorem dX11_wordsOfAll_9 : decode cX11_wordsOfAll 9 = .ok (.if_icmp .ge 18, 3) := by decide +kernel
theorem dX11_wordsOfAll_12 : decode cX11_wordsOfAll 12 = .ok (.iload_n 1, 1) := by decide +kernel
theorem dX11_wordsOfAll_13 : decode cX11_wordsOfAll 13 = .ok (.aload_n 0, 1) := by decide +kernel
theorem dX11_wordsOfAll_14 : decode cX11_wordsOfAll 14 = .ok (.iload_n 2, 1) := by decide +kernel
theorem dX11_wordsOfAll_15 : decode cX11_wordsOfAll 15 = .ok (.iconst 2, 1) := by decide +kernel
theorem dX11_wordsOfAll_16 : decode cX11_wordsOfAll 16 = .ok (.invokevirtual 210, 3) := by decide +kernel
theorem dX11_wordsOfAll_19 : decode cX11_wordsOfAll 19 = .ok (.iadd, 1) := by decide +kernel
theorem dX11_wordsOfAll_20 : decode cX11_wordsOfAll 20 = .ok (.istore_n 1, 1) := by decide +kernel
theorem dX11_wordsOfAll_21 : decode cX11_wordsOfAll 21 = .ok (.iinc 2 1, 3) := by decide +kernel
theorem dX11_wordsOfAll_24 : decode cX11_wordsOfAll 24 = .ok (.goto (-20), 3) := by decide +kernel
theorem dX11_wordsOfAll_27 : decode cX11_wordsOfAll 27 = .ok (.iload_n 1, 1) := by decide +kernel
theorem dX11_wordsOfAll_28 : decode cX11_wordsOfAll 28 = .ok (.ireturn, 1) := by decide +kernel
set_option maxRecDepth 100000 in
theorem ggX11_isLong_X11_of : GoodIn wsX11_isLong wsX11_of := goodIn_r _ [6, 1, 7, 8, 9, 10, 11, 12, 13, 14, 15, 16, 17, 18, 19, 20, 21, 22, 23, 24, 25, 26, 27, 28, 29, 30, 31, 32, 33] rfl (by decide +kernel)
set_option maxRecDepth 100000 in
theorem gX11_isLong_X11_of : GoodIn wsX11_isLong (wsV RX11 210 RX11 yX11_of wsX11_of) := goodIn_app (goodIn_of _ (by decide +kernel)) ggX11_isLong_X11_of
theorem dX11_isLong_0 : decode cX11_isLong 0 = .ok (.aload_n 0, 1) := by decide +kernel
theorem dX11_isLong_1 : decode cX11_isLong 1 = .ok (.iload_n 1, 1) := by decide +kernel
theorem dX11_isLong_2 : decode cX11_isLong 2 = .ok (.iconst 1, 1) := by decide +kernel
theorem dX11_isLong_3 : decode cX11_isLong 3 = .ok (.invokevirtual 210, 3) := by decide +kernel
theorem dX11_isLong_6 : decode cX11_isLong 6 = .ok (.i2l, 1) := by decide +kernel
theorem dX11_isLong_7 : decode cX11_isLong 7 = .ok (.aload_n 0, 1) := by decide +kernel
theorem dX11_isLong_8 : decode cX11_isLong 8 = .ok (.getfield 9, 3) := by decide +kernel
theorem dX11_isLong_11 : decode cX11_isLong 11 = .ok (.iconst 4, 1) := by decide +kernel
theorem dX11_isLong_12 : decode cX11_isLong 12 = .ok (.laload, 1) := by decide +kernel
theorem dX11_isLong_13 : decode cX11_isLong 13 = .ok (.lcmp, 1) := by decide +kernel
theorem dX11_isLong_14 : decode cX11_isLong 14 = .ok (.ifCond .lt 7, 3) := by decide +kernel
theorem dX11_isLong_17 : decode cX11_isLong 17 = .ok (.iconst 1, 1) := by decide +kernel
theorem dX11_isLong_18 : decode cX11_isLong 18 = .ok (.goto 4, 3) := by decide +kernel
theorem dX11_isLong_21 : decode cX11_isLong 21 = .ok (.iconst 0, 1) := by decide +kernel
theorem dX11_isLong_22 : decode cX11_isLong 22 = .ok (.ireturn, 1) := by decide +kernel
set_option maxRecDepth 100000 in
theorem ggX11_longPauses_X11_many : GoodIn wsX11_longPauses wsX11_many := goodIn_r _ [5, 6, 15, 16, 17, 18, 19, 20, 21, 22, 23, 24, 25, 26, 27, 28, 29, 30, 31, 32, 33, 34, 35, 36, 37, 38, 39, 40, 41] rfl (by decide +kernel)
set_option maxRecDepth 100000 in
theorem gX11_longPauses_X11_many : GoodIn wsX11_longPauses (wsV RX11 207 RX11 yX11_many wsX11_many) := goodIn_app (goodIn_of _ (by decide +kernel)) ggX11_longPauses_X11_many
set_option maxRecDepth 100000 in
theorem ggX11_longPauses_X11_isLong : GoodIn wsX11_longPauses wsX11_isLong := goodIn_r _ [10, 6, 11, 12, 13, 4, 14, 15, 16, 17, 18, 19, 20, 21, 22, 23, 24, 25, 26, 27, 28, 29, 30, 31, 32, 33, 34, 35, 36, 37, 38, 39, 40, 41] rfl (by decide +kernel)
set_option maxRecDepth 100000 in
theorem gX11_longPauses_X11_isLong : GoodIn wsX11_longPauses (wsV RX11 213 RX11 yX11_isLong wsX11_isLong) := goodIn_app (goodIn_of _ (by decide +kernel)) ggX11_longPauses_X11_isLong
theorem dX11_longPauses_0 : decode cX11_longPauses 0 = .ok (.iconst 0, 1) := by decide +kernel
theorem dX11_longPauses_1 : decode cX11_longPauses 1 = .ok (.istore_n 1, 1) := by decide +kernel
theorem dX11_longPauses_2 : decode cX11_longPauses 2 = .ok (.iconst 0, 1) := by decide +kernel
theorem dX11_longPauses_3 : decode cX11_longPauses 3 = .ok (.istore_n 2, 1) := by decide +kernel
theorem dX11_longPauses_4 : decode cX11_longPauses 4 = .ok (.iload_n 2, 1) := by decide +kernel
theorem dX11_longPauses_5 : decode cX11_longPauses 5 = .ok (.aload_n 0, 1) := by decide +kernel
theorem dX11_longPauses_6 : decode cX11_longPauses 6 = .ok (.invokevirtual 207, 3) := by decide +kernel
theorem dX11_longPauses_9 : decode cX11_longPauses 9 = .ok (.iconst 1, 1) := by decide +kernel
theorem dX11_longPauses_10 : decode cX11_longPauses 10 = .ok (.isub, 1) := by decide +kernel
theorem dX11_longPauses_11 : decode cX11_longPauses 11 = .ok (.if_icmp .ge 25, 3) := by decide +kernel
theorem dX11_longPauses_14 : decode cX11_longPauses 14 = .ok (.iload_n 1, 1) := by decide +kernel
theorem dX11_longPauses_15 : decode cX11_longPauses 15 = .ok (.aload_n 0, 1) := by decide +kernel
theorem dX11_longPauses_16 : decode cX11_longPauses 16 = .ok (.iload_n 2, 1) := by decide +kernel
theorem dX11_longPauses_17 : decode cX11_longPauses 17 = .ok (.invokevirtual 213, 3) := by decide +kernel
theorem dX11_longPauses_20 : decode cX11_longPauses 20 = .ok (.ifCond .eq 7, 3) := by decide +kernel
theorem dX11_longPauses_23 : decode cX11_longPauses 23 = .ok (.iconst 1, 1) := by decide +kernel
theorem dX11_longPauses_24 : decode cX11_longPauses 24 = .ok (.goto 4, 3) := by decide +kernel
theorem dX11_longPauses_27 : decode cX11_longPauses 27 = .ok (.iconst 0, 1) := by decide +kernel
theorem dX11_longPauses_28 : decode cX11_longPauses 28 = .ok (.iadd, 1) := by decide +kernel
theorem dX11_longPauses_29 : decode cX11_longPauses 29 = .ok (.istore_n 1, 1) := by decide +kernel
theorem dX11_longPauses_30 : decode cX11_longPauses 30 = .ok (.iinc 2 1, 3) := by decide +kernel
theorem dX11_longPauses_33 : decode cX11_longPauses 33 = .ok (.goto (-29), 3) := by decide +kernel
theorem dX11_longPauses_36 : decode cX11_longPauses 36 = .ok (.iload_n 1, 1) := by decide +kernel
theorem dX11_longPauses_37 : decode cX11_longPauses 37 = .ok (.ireturn, 1) := by decide +kernel
set_option maxRecDepth 100000 in
theorem ggX11_count_X11_isIn : GoodIn wsX11_count wsX11_isIn := goodIn_r _ [7] rfl (by decide +kernel)
set_option maxRecDepth 100000 in
theorem gX11_count_X11_isIn : GoodIn wsX11_count (va_wsS RX11 95 yX11_isIn wsX11_isIn) := goodIn_app (goodIn_of _ (by decide +kernel)) ggX11_count_X11_isIn
set_option maxRecDepth 100000 in
theorem ggX11_count_X11_many : GoodIn wsX11_count wsX11_many := goodIn_r _ [11, 3, 32, 33, 34, 35, 36, 37, 38, 39, 40, 41, 42, 43, 44, 45, 46, 47, 48, 49, 50, 51, 52, 53, 54, 55, 56, 57, 58] rfl (by decide +kernel)
set_option maxRecDepth 100000 in
theorem gX11_count_X11_many : GoodIn wsX11_count (wsV RX11 207 RX11 yX11_many wsX11_many) := goodIn_app (goodIn_of _ (by decide +kernel)) ggX11_count_X11_many
set_option maxRecDepth 100000 in
theorem ggX11_count_X11_spoken : GoodIn wsX11_count wsX11_spoken := goodIn_r _ [15, 16, 17, 18, 6, 19, 3, 32, 33, 34, 35, 36, 37, 38, 39, 40, 41, 42, 43, 44, 45, 46, 47, 48, 49, 50, 51, 52, 53, 54, 55, 56, 57, 58] rfl (by decide +kernel)
set_option maxRecDepth 100000 in
theorem gX11_count_X11_spoken : GoodIn wsX11_count (wsV RX11 216 RX11 yX11_spoken wsX11_spoken) := goodIn_app (goodIn_of _ (by decide +kernel)) ggX11_count_X11_spoken
set_option maxRecDepth 100000 in
theorem ggX11_count_X11_wordsOfAll : GoodIn wsX11_count wsX11_wordsOfAll := goodIn_r _ [23, 8, 9, 10, 6, 11, 3, 16, 17, 18, 19, 32, 33, 34, 35, 36, 37, 38, 39, 40, 41, 42, 43, 44, 45, 46, 47, 48, 49, 50, 51, 52, 53, 54, 55, 56, 57, 58] rfl (by decide +kernel)
set_option maxRecDepth 100000 in
theorem gX11_count_X11_wordsOfAll : GoodIn wsX11_count (wsV RX11 219 RX11 yX11_wordsOfAll wsX11_wordsOfAll) := goodIn_app (goodIn_of _ (by decide +kernel)) ggX11_count_X11_wordsOfAll
set_option maxRecDepth 100000 in
theorem ggX11_count_X11_longPauses : GoodIn wsX11_count wsX11_longPauses := goodIn_r _ [27, 8, 9, 10, 6, 11, 3, 28, 29, 30, 31, 16, 17, 18, 19, 32, 33, 34, 35, 36, 37, 38, 39, 40, 41, 42, 43, 44, 45, 46, 47, 48, 49, 50, 51, 52, 53, 54, 55, 56, 57, 58] rfl (by decide +kernel)
set_option maxRecDepth 100000 in
theorem gX11_count_X11_longPauses : GoodIn wsX11_count (wsV RX11 222 RX11 yX11_longPauses wsX11_longPauses) := goodIn_app (goodIn_of _ (by decide +kernel)) ggX11_count_X11_longPauses
theorem dX11_count_0 : decode cX11_count 0 = .ok (.aload_n 0, 1) := by decide +kernel
theorem dX11_count_1 : decode cX11_count 1 = .ok (.iload_n 1, 1) := by decide +kernel
theorem dX11_count_2 : decode cX11_count 2 = .ok (.i2l, 1) := by decide +kernel
theorem dX11_count_3 : decode cX11_count 3 = .ok (.lconst 0, 1) := by decide +kernel
theorem dX11_count_4 : decode cX11_count 4 = .ok (.ldc2_w 75, 3) := by decide +kernel
theorem dX11_count_7 : decode cX11_count 7 = .ok (.invokestatic 95, 3) := by decide +kernel
theorem dX11_count_10 : decode cX11_count 10 = .ok (.ifCond .eq 7, 3) := by decide +kernel
theorem dX11_count_13 : decode cX11_count 13 = .ok (.iconst 0, 1) := by decide +kernel
theorem dX11_count_14 : decode cX11_count 14 = .ok (.goto 4, 3) := by decide +kernel
theorem dX11_count_17 : decode cX11_count 17 = .ok (.iconst 1, 1) := by decide +kernel
theorem dX11_count_18 : decode cX11_count 18 = .ok (.putfield 79, 3) := by decide +kernel
theorem dX11_count_21 : decode cX11_count 21 = .ok (.aload_n 0, 1) := by decide +kernel
theorem dX11_count_22 : decode cX11_count 22 = .ok (.getfield 79, 3) := by decide +kernel
theorem dX11_count_25 : decode cX11_count 25 = .ok (.ifCond .le 5, 3) := by decide +kernel
theorem dX11_count_28 : decode cX11_count 28 = .ok (.iconst 0, 1) := by decide +kernel
theorem dX11_count_29 : decode cX11_count 29 = .ok (.ireturn, 1) := by decide +kernel
theorem dX11_count_30 : decode cX11_count 30 = .ok (.iload_n 1, 1) := by decide +kernel
theorem dX11_count_31 : decode cX11_count 31 = .ok (.tableswitch 44 3 5 #[25, 34, 39], 25) := by decide +kernel
theorem dX11_count_56 : decode cX11_count 56 = .ok (.aload_n 0, 1) := by decide +kernel
theorem dX11_count_57 : decode cX11_count 57 = .ok (.aload_n 0, 1) := by decide +kernel
theorem dX11_count_58 : decode cX11_count 58 = .ok (.invokevirtual 207, 3) := by decide +kernel
theorem dX11_count_61 : decode cX11_count 61 = .ok (.invokevirtual 216, 3) := by decide +kernel
theorem dX11_count_64 : decode cX11_count 64 = .ok (.ireturn, 1) := by decide +kernel
theorem dX11_count_65 : decode cX11_count 65 = .ok (.aload_n 0, 1) := by decide +kernel
theorem dX11_count_66 : decode cX11_count 66 = .ok (.invokevirtual 219, 3) := by decide +kernel
theorem dX11_count_69 : decode cX11_count 69 = .ok (.ireturn, 1) := by decide +kernel
theorem dX11_count_70 : decode cX11_count 70 = .ok (.aload_n 0, 1) := by decide +kernel
theorem dX11_count_71 : decode cX11_count 71 = .ok (.invokevirtual 222, 3) := by decide +kernel
theorem dX11_count_74 : decode cX11_count 74 = .ok (.ireturn, 1) := by decide +kernel
theorem dX11_count_75 : decode cX11_count 75 = .ok (.aload_n 0, 1) := by decide +kernel
theorem dX11_count_76 : decode cX11_count 76 = .ok (.getfield 9, 3) := by decide +kernel
theorem dX11_count_79 : decode cX11_count 79 = .ok (.bipush 6, 2) := by decide +kernel
theorem dX11_count_81 : decode cX11_count 81 = .ok (.iload_n 1, 1) := by decide +kernel
theorem dX11_count_82 : decode cX11_count 82 = .ok (.iadd, 1) := by decide +kernel
theorem dX11_count_83 : decode cX11_count 83 = .ok (.laload, 1) := by decide +kernel
theorem dX11_count_84 : decode cX11_count 84 = .ok (.l2i, 1) := by decide +kernel
theorem dX11_count_85 : decode cX11_count 85 = .ok (.ireturn, 1) := by decide +kernel
set_option maxRecDepth 100000 in
theorem ggX11_setting_X11_isIn : GoodIn wsX11_setting wsX11_isIn := goodIn_r _ [7] rfl (by decide +kernel)
set_option maxRecDepth 100000 in
theorem gX11_setting_X11_isIn : GoodIn wsX11_setting (va_wsS RX11 95 yX11_isIn wsX11_isIn) := goodIn_app (goodIn_of _ (by decide +kernel)) ggX11_setting_X11_isIn
theorem dX11_setting_0 : decode cX11_setting 0 = .ok (.aload_n 0, 1) := by decide +kernel
theorem dX11_setting_1 : decode cX11_setting 1 = .ok (.iload_n 1, 1) := by decide +kernel
theorem dX11_setting_2 : decode cX11_setting 2 = .ok (.i2l, 1) := by decide +kernel
theorem dX11_setting_3 : decode cX11_setting 3 = .ok (.lconst 0, 1) := by decide +kernel
theorem dX11_setting_4 : decode cX11_setting 4 = .ok (.ldc2_w 75, 3) := by decide +kernel
theorem dX11_setting_7 : decode cX11_setting 7 = .ok (.invokestatic 95, 3) := by decide +kernel
theorem dX11_setting_10 : decode cX11_setting 10 = .ok (.ifCond .eq 7, 3) := by decide +kernel
theorem dX11_setting_13 : decode cX11_setting 13 = .ok (.iconst 0, 1) := by decide +kernel
theorem dX11_setting_14 : decode cX11_setting 14 = .ok (.goto 4, 3) := by decide +kernel
theorem dX11_setting_17 : decode cX11_setting 17 = .ok (.iconst 1, 1) := by decide +kernel
theorem dX11_setting_18 : decode cX11_setting 18 = .ok (.putfield 79, 3) := by decide +kernel
theorem dX11_setting_21 : decode cX11_setting 21 = .ok (.aload_n 0, 1) := by decide +kernel
theorem dX11_setting_22 : decode cX11_setting 22 = .ok (.getfield 79, 3) := by decide +kernel
theorem dX11_setting_25 : decode cX11_setting 25 = .ok (.ifCond .le 7, 3) := by decide +kernel
theorem dX11_setting_28 : decode cX11_setting 28 = .ok (.iconst 0, 1) := by decide +kernel
theorem dX11_setting_29 : decode cX11_setting 29 = .ok (.goto 10, 3) := by decide +kernel
theorem dX11_setting_32 : decode cX11_setting 32 = .ok (.aload_n 0, 1) := by decide +kernel
theorem dX11_setting_33 : decode cX11_setting 33 = .ok (.getfield 9, 3) := by decide +kernel
theorem dX11_setting_36 : decode cX11_setting 36 = .ok (.iload_n 1, 1) := by decide +kernel
theorem dX11_setting_37 : decode cX11_setting 37 = .ok (.laload, 1) := by decide +kernel
theorem dX11_setting_38 : decode cX11_setting 38 = .ok (.l2i, 1) := by decide +kernel
theorem dX11_setting_39 : decode cX11_setting 39 = .ok (.ireturn, 1) := by decide +kernel
set_option maxRecDepth 100000 in
theorem ggX11_set_X11_isIn : GoodIn wsX11_set wsX11_isIn := goodIn_r _ [7] rfl (by decide +kernel)
set_option maxRecDepth 100000 in
theorem gX11_set_X11_isIn : GoodIn wsX11_set (va_wsS RX11 95 yX11_isIn wsX11_isIn) := goodIn_app (goodIn_of _ (by decide +kernel)) ggX11_set_X11_isIn
set_option maxRecDepth 100000 in
theorem ggX11_set_X11_low : GoodIn wsX11_set wsX11_low := goodIn_r _ [10] rfl (by decide +kernel)
set_option maxRecDepth 100000 in
theorem gX11_set_X11_low : GoodIn wsX11_set (va_wsS RX11 189 yX11_low wsX11_low) := goodIn_app (goodIn_of _ (by decide +kernel)) ggX11_set_X11_low
set_option maxRecDepth 100000 in
theorem ggX11_set_X11_high : GoodIn wsX11_set wsX11_high := goodIn_r _ [13] rfl (by decide +kernel)
set_option maxRecDepth 100000 in
theorem gX11_set_X11_high : GoodIn wsX11_set (va_wsS RX11 192 yX11_high wsX11_high) := goodIn_app (goodIn_of _ (by decide +kernel)) ggX11_set_X11_high
set_option maxRecDepth 100000 in
theorem ggX11_set_X11_keeps : GoodIn wsX11_set wsX11_keeps := goodIn_r _ [17, 18, 19, 3, 20, 21, 22, 23, 24, 25, 26, 27, 28, 29, 30, 31, 32, 33, 34, 35, 36, 37, 38, 39, 40, 41, 42, 43, 44, 45, 46] rfl (by decide +kernel)
set_option maxRecDepth 100000 in
theorem gX11_set_X11_keeps : GoodIn wsX11_set (wsV RX11 204 RX11 yX11_keeps wsX11_keeps) := goodIn_app (goodIn_of _ (by decide +kernel)) ggX11_set_X11_keeps
theorem dX11_set_0 : decode cX11_set 0 = .ok (.aload_n 0, 1) := by decide +kernel
theorem dX11_set_1 : decode cX11_set 1 = .ok (.iload_n 1, 1) := by decide +kernel
theorem dX11_set_2 : decode cX11_set 2 = .ok (.i2l, 1) := by decide +kernel
theorem dX11_set_3 : decode cX11_set 3 = .ok (.lconst 0, 1) := by decide +kernel
theorem dX11_set_4 : decode cX11_set 4 = .ok (.ldc2_w 75, 3) := by decide +kernel
theorem dX11_set_7 : decode cX11_set 7 = .ok (.invokestatic 95, 3) := by decide +kernel
theorem dX11_set_10 : decode cX11_set 10 = .ok (.ifCond .ne 7, 3) := by decide +kernel
theorem dX11_set_13 : decode cX11_set 13 = .ok (.iconst 1, 1) := by decide +kernel
theorem dX11_set_14 : decode cX11_set 14 = .ok (.goto 26, 3) := by decide +kernel
theorem dX11_set_17 : decode cX11_set 17 = .ok (.iload_n 2, 1) := by decide +kernel
theorem dX11_set_18 : decode cX11_set 18 = .ok (.i2l, 1) := by decide +kernel
theorem dX11_set_19 : decode cX11_set 19 = .ok (.iload_n 1, 1) := by decide +kernel
theorem dX11_set_20 : decode cX11_set 20 = .ok (.invokestatic 189, 3) := by decide +kernel
theorem dX11_set_23 : decode cX11_set 23 = .ok (.i2l, 1) := by decide +kernel
theorem dX11_set_24 : decode cX11_set 24 = .ok (.iload_n 1, 1) := by decide +kernel
theorem dX11_set_25 : decode cX11_set 25 = .ok (.invokestatic 192, 3) := by decide +kernel
theorem dX11_set_28 : decode cX11_set 28 = .ok (.i2l, 1) := by decide +kernel
theorem dX11_set_29 : decode cX11_set 29 = .ok (.invokestatic 95, 3) := by decide +kernel
theorem dX11_set_32 : decode cX11_set 32 = .ok (.ifCond .ne 7, 3) := by decide +kernel
theorem dX11_set_35 : decode cX11_set 35 = .ok (.iconst 2, 1) := by decide +kernel
theorem dX11_set_36 : decode cX11_set 36 = .ok (.goto 4, 3) := by decide +kernel
theorem dX11_set_39 : decode cX11_set 39 = .ok (.iconst 0, 1) := by decide +kernel
theorem dX11_set_40 : decode cX11_set 40 = .ok (.putfield 79, 3) := by decide +kernel
theorem dX11_set_43 : decode cX11_set 43 = .ok (.aload_n 0, 1) := by decide +kernel
theorem dX11_set_44 : decode cX11_set 44 = .ok (.getfield 79, 3) := by decide +kernel
theorem dX11_set_47 : decode cX11_set 47 = .ok (.ifCond .le 5, 3) := by decide +kernel
theorem dX11_set_50 : decode cX11_set 50 = .ok (.iconst 0, 1) := by decide +kernel
theorem dX11_set_51 : decode cX11_set 51 = .ok (.ireturn, 1) := by decide +kernel
theorem dX11_set_52 : decode cX11_set 52 = .ok (.aload_n 0, 1) := by decide +kernel
theorem dX11_set_53 : decode cX11_set 53 = .ok (.invokevirtual 204, 3) := by decide +kernel
theorem dX11_set_56 : decode cX11_set 56 = .ok (.aload_n 0, 1) := by decide +kernel
theorem dX11_set_57 : decode cX11_set 57 = .ok (.getfield 9, 3) := by decide +kernel
theorem dX11_set_60 : decode cX11_set 60 = .ok (.iload_n 1, 1) := by decide +kernel
theorem dX11_set_61 : decode cX11_set 61 = .ok (.laload, 1) := by decide +kernel
theorem dX11_set_62 : decode cX11_set 62 = .ok (.l2i, 1) := by decide +kernel
theorem dX11_set_63 : decode cX11_set 63 = .ok (.istore_n 3, 1) := by decide +kernel
theorem dX11_set_64 : decode cX11_set 64 = .ok (.aload_n 0, 1) := by decide +kernel
theorem dX11_set_65 : decode cX11_set 65 = .ok (.getfield 9, 3) := by decide +kernel
theorem dX11_set_68 : decode cX11_set 68 = .ok (.iload_n 1, 1) := by decide +kernel
theorem dX11_set_69 : decode cX11_set 69 = .ok (.iload_n 2, 1) := by decide +kernel
theorem dX11_set_70 : decode cX11_set 70 = .ok (.i2l, 1) := by decide +kernel
theorem dX11_set_71 : decode cX11_set 71 = .ok (.lastore, 1) := by decide +kernel
theorem dX11_set_72 : decode cX11_set 72 = .ok (.iload_n 3, 1) := by decide +kernel
theorem dX11_set_73 : decode cX11_set 73 = .ok (.ireturn, 1) := by decide +kernel
set_option maxRecDepth 100000 in
theorem ggX11_segment_X11_isSegment : GoodIn wsX11_segment wsX11_isSegment := goodIn_r _ [7, 8, 9, 10, 6, 11, 12, 13, 14, 15, 104, 105, 106, 107, 108, 109, 110, 111, 112, 113, 114, 115, 116, 117, 118, 119, 120, 121, 122, 123, 124, 125, 126, 127, 128, 129, 130] rfl (by decide +kernel)
set_option maxRecDepth 100000 in
theorem gX11_segment_X11_isSegment : GoodIn wsX11_segment (wsV RX11 225 RX11 yX11_isSegment wsX11_isSegment) := goodIn_app (goodIn_of _ (by decide +kernel)) ggX11_segment_X11_isSegment
set_option maxRecDepth 100000 in
theorem ggX11_segment_X11_isIn : GoodIn wsX11_segment wsX11_isIn := goodIn_r _ [15] rfl (by decide +kernel)
set_option maxRecDepth 100000 in
theorem gX11_segment_X11_isIn : GoodIn wsX11_segment (va_wsS RX11 95 yX11_isIn wsX11_isIn) := goodIn_app (goodIn_of _ (by decide +kernel)) ggX11_segment_X11_isIn
set_option maxRecDepth 100000 in
theorem ggX11_segment_X11_spoken : GoodIn wsX11_segment wsX11_spoken := goodIn_r _ [19, 20, 21, 22, 6, 23, 12, 104, 105, 106, 107, 108, 109, 110, 111, 112, 113, 114, 115, 116, 117, 118, 119, 120, 121, 122, 123, 124, 125, 126, 127, 128, 129, 130] rfl (by decide +kernel)
set_option maxRecDepth 100000 in
theorem gX11_segment_X11_spoken : GoodIn wsX11_segment (wsV RX11 216 RX11 yX11_spoken wsX11_spoken) := goodIn_app (goodIn_of _ (by decide +kernel)) ggX11_segment_X11_spoken
set_option maxRecDepth 100000 in
theorem ggX11_segment_X11_realTime : GoodIn wsX11_segment wsX11_realTime := goodIn_r _ [27, 12, 28, 16, 17, 18, 6, 19, 20, 21, 22, 23, 29, 30, 31, 32, 33, 34, 35, 36, 37, 38, 39, 40, 41, 42, 43, 44, 45, 46, 47, 48, 49, 50, 51, 52, 8, 9, 10, 11, 53, 54, 55, 56, 57, 58, 59, 60, 61, 62, 63, 64, 65, 66, 67, 68, 69, 70, 13, 14, 15, 71, 72, 73, 74, 75, 76, 77, 78, 79, 80, 81, 82, 83, 84, 85, 86, 87, 88, 89, 90, 91, 92, 93, 94, 95, 96, 97, 98, 99, 100, 101, 102, 103, 104, 105, 106, 107, 108, 109, 110, 111, 112, 113, 114, 115, 116, 117, 118, 119, 120, 121, 122, 123, 124, 125, 126, 127, 128, 129, 130] rfl (by decide +kernel)
set_option maxRecDepth 100000 in
theorem gX11_segment_X11_realTime : GoodIn wsX11_segment (wsV RX11 230 RX11 yX11_realTime wsX11_realTime) := goodIn_app (goodIn_of _ (by decide +kernel)) ggX11_segment_X11_realTime
set_option maxRecDepth 100000 in
theorem ggX11_segment_X11_of : GoodIn wsX11_segment wsX11_of := goodIn_r _ [23, 12, 104, 105, 106, 107, 108, 109, 110, 111, 112, 113, 114, 115, 116, 117, 118, 119, 120, 121, 122, 123, 124, 125, 126, 127, 128, 129, 130] rfl (by decide +kernel)
set_option maxRecDepth 100000 in
theorem gX11_segment_X11_of : GoodIn wsX11_segment (wsV RX11 210 RX11 yX11_of wsX11_of) := goodIn_app (goodIn_of _ (by decide +kernel)) ggX11_segment_X11_of
theorem dX11_segment_0 : decode cX11_segment 0 = .ok (.aload_n 0, 1) := by decide +kernel
theorem dX11_segment_1 : decode cX11_segment 1 = .ok (.aload_n 0, 1) := by decide +kernel
theorem dX11_segment_2 : decode cX11_segment 2 = .ok (.iload_n 1, 1) := by decide +kernel
theorem dX11_segment_3 : decode cX11_segment 3 = .ok (.invokevirtual 225, 3) := by decide +kernel
theorem dX11_segment_6 : decode cX11_segment 6 = .ok (.ifCond .ne 7, 3) := by decide +kernel
theorem dX11_segment_9 : decode cX11_segment 9 = .ok (.iconst 1, 1) := by decide +kernel
theorem dX11_segment_10 : decode cX11_segment 10 = .ok (.goto 20, 3) := by decide +kernel
theorem dX11_segment_13 : decode cX11_segment 13 = .ok (.iload_n 2, 1) := by decide +kernel
theorem dX11_segment_14 : decode cX11_segment 14 = .ok (.i2l, 1) := by decide +kernel
theorem dX11_segment_15 : decode cX11_segment 15 = .ok (.lconst 0, 1) := by decide +kernel
theorem dX11_segment_16 : decode cX11_segment 16 = .ok (.ldc2_w 228, 3) := by decide +kernel
theorem dX11_segment_19 : decode cX11_segment 19 = .ok (.invokestatic 95, 3) := by decide +kernel
theorem dX11_segment_22 : decode cX11_segment 22 = .ok (.ifCond .ne 7, 3) := by decide +kernel
theorem dX11_segment_25 : decode cX11_segment 25 = .ok (.iconst 2, 1) := by decide +kernel
theorem dX11_segment_26 : decode cX11_segment 26 = .ok (.goto 4, 3) := by decide +kernel
theorem dX11_segment_29 : decode cX11_segment 29 = .ok (.iconst 0, 1) := by decide +kernel
theorem dX11_segment_30 : decode cX11_segment 30 = .ok (.putfield 79, 3) := by decide +kernel
theorem dX11_segment_33 : decode cX11_segment 33 = .ok (.aload_n 0, 1) := by decide +kernel
theorem dX11_segment_34 : decode cX11_segment 34 = .ok (.getfield 79, 3) := by decide +kernel
theorem dX11_segment_37 : decode cX11_segment 37 = .ok (.ifCond .le 5, 3) := by decide +kernel
theorem dX11_segment_40 : decode cX11_segment 40 = .ok (.iconst 0, 1) := by decide +kernel
theorem dX11_segment_41 : decode cX11_segment 41 = .ok (.ireturn, 1) := by decide +kernel
theorem dX11_segment_42 : decode cX11_segment 42 = .ok (.iload_n 2, 1) := by decide +kernel
theorem dX11_segment_43 : decode cX11_segment 43 = .ok (.lookupswitch 37 #[(3, 25), (4, 31)], 25) := by decide +kernel
theorem dX11_segment_68 : decode cX11_segment 68 = .ok (.aload_n 0, 1) := by decide +kernel
theorem dX11_segment_69 : decode cX11_segment 69 = .ok (.iload_n 1, 1) := by decide +kernel
theorem dX11_segment_70 : decode cX11_segment 70 = .ok (.invokevirtual 216, 3) := by decide +kernel
theorem dX11_segment_73 : decode cX11_segment 73 = .ok (.ireturn, 1) := by decide +kernel
theorem dX11_segment_74 : decode cX11_segment 74 = .ok (.aload_n 0, 1) := by decide +kernel
theorem dX11_segment_75 : decode cX11_segment 75 = .ok (.iload_n 1, 1) := by decide +kernel
theorem dX11_segment_76 : decode cX11_segment 76 = .ok (.invokevirtual 230, 3) := by decide +kernel
theorem dX11_segment_79 : decode cX11_segment 79 = .ok (.ireturn, 1) := by decide +kernel
theorem dX11_segment_80 : decode cX11_segment 80 = .ok (.aload_n 0, 1) := by decide +kernel
theorem dX11_segment_81 : decode cX11_segment 81 = .ok (.iload_n 1, 1) := by decide +kernel
theorem dX11_segment_82 : decode cX11_segment 82 = .ok (.iload_n 2, 1) := by decide +kernel
theorem dX11_segment_83 : decode cX11_segment 83 = .ok (.invokevirtual 210, 3) := by decide +kernel
theorem dX11_segment_86 : decode cX11_segment 86 = .ok (.ireturn, 1) := by decide +kernel
set_option maxRecDepth 100000 in
theorem ggX11_wordOf_X11_isSegment : GoodIn wsX11_wordOf wsX11_isSegment := goodIn_r _ [6, 7, 8, 9, 5, 10, 11, 12, 13, 14, 19, 20, 21, 22, 23, 24, 25, 26, 27, 28, 29, 30, 31, 32, 33, 34, 35, 36, 37, 38, 39, 40, 41, 42, 43, 44, 45] rfl (by decide +kernel)
set_option maxRecDepth 100000 in
theorem gX11_wordOf_X11_isSegment : GoodIn wsX11_wordOf (wsV RX11 225 RX11 yX11_isSegment wsX11_isSegment) := goodIn_app (goodIn_of _ (by decide +kernel)) ggX11_wordOf_X11_isSegment
set_option maxRecDepth 100000 in
theorem ggX11_wordOf_X11_of : GoodIn wsX11_wordOf wsX11_of := goodIn_r _ [18, 11, 19, 20, 21, 22, 23, 24, 25, 26, 27, 28, 29, 30, 31, 32, 33, 34, 35, 36, 37, 38, 39, 40, 41, 42, 43, 44, 45] rfl (by decide +kernel)
set_option maxRecDepth 100000 in
theorem gX11_wordOf_X11_of : GoodIn wsX11_wordOf (wsV RX11 210 RX11 yX11_of wsX11_of) := goodIn_app (goodIn_of _ (by decide +kernel)) ggX11_wordOf_X11_of
set_option maxRecDepth 100000 in
theorem ggX11_wordOf_X11_isIn : GoodIn wsX11_wordOf wsX11_isIn := goodIn_r _ [14] rfl (by decide +kernel)
set_option maxRecDepth 100000 in
theorem gX11_wordOf_X11_isIn : GoodIn wsX11_wordOf (va_wsS RX11 95 yX11_isIn wsX11_isIn) := goodIn_app (goodIn_of _ (by decide +kernel)) ggX11_wordOf_X11_isIn
theorem dX11_wordOf_0 : decode cX11_wordOf 0 = .ok (.aload_n 0, 1) := by decide +kernel
theorem dX11_wordOf_1 : decode cX11_wordOf 1 = .ok (.aload_n 0, 1) := by decide +kernel
theorem dX11_wordOf_2 : decode cX11_wordOf 2 = .ok (.iload_n 1, 1) := by decide +kernel
theorem dX11_wordOf_3 : decode cX11_wordOf 3 = .ok (.invokevirtual 225, 3) := by decide +kernel
theorem dX11_wordOf_6 : decode cX11_wordOf 6 = .ok (.ifCond .eq 25, 3) := by decide +kernel
theorem dX11_wordOf_9 : decode cX11_wordOf 9 = .ok (.iload_n 2, 1) := by decide +kernel
theorem dX11_wordOf_10 : decode cX11_wordOf 10 = .ok (.i2l, 1) := by decide +kernel
theorem dX11_wordOf_11 : decode cX11_wordOf 11 = .ok (.lconst 0, 1) := by decide +kernel
theorem dX11_wordOf_12 : decode cX11_wordOf 12 = .ok (.aload_n 0, 1) := by decide +kernel
theorem dX11_wordOf_13 : decode cX11_wordOf 13 = .ok (.iload_n 1, 1) := by decide +kernel
theorem dX11_wordOf_14 : decode cX11_wordOf 14 = .ok (.iconst 2, 1) := by decide +kernel
theorem dX11_wordOf_15 : decode cX11_wordOf 15 = .ok (.invokevirtual 210, 3) := by decide +kernel
theorem dX11_wordOf_18 : decode cX11_wordOf 18 = .ok (.iconst 1, 1) := by decide +kernel
theorem dX11_wordOf_19 : decode cX11_wordOf 19 = .ok (.isub, 1) := by decide +kernel
theorem dX11_wordOf_20 : decode cX11_wordOf 20 = .ok (.i2l, 1) := by decide +kernel
theorem dX11_wordOf_21 : decode cX11_wordOf 21 = .ok (.invokestatic 95, 3) := by decide +kernel
theorem dX11_wordOf_24 : decode cX11_wordOf 24 = .ok (.ifCond .eq 7, 3) := by decide +kernel
theorem dX11_wordOf_27 : decode cX11_wordOf 27 = .ok (.iconst 0, 1) := by decide +kernel
theorem dX11_wordOf_28 : decode cX11_wordOf 28 = .ok (.goto 4, 3) := by decide +kernel
theorem dX11_wordOf_31 : decode cX11_wordOf 31 = .ok (.iconst 1, 1) := by decide +kernel
theorem dX11_wordOf_32 : decode cX11_wordOf 32 = .ok (.putfield 79, 3) := by decide +kernel
theorem dX11_wordOf_35 : decode cX11_wordOf 35 = .ok (.aload_n 0, 1) := by decide +kernel
theorem dX11_wordOf_36 : decode cX11_wordOf 36 = .ok (.getfield 79, 3) := by decide +kernel
theorem dX11_wordOf_39 : decode cX11_wordOf 39 = .ok (.ifCond .le 7, 3) := by decide +kernel
theorem dX11_wordOf_42 : decode cX11_wordOf 42 = .ok (.iconst 0, 1) := by decide +kernel
theorem dX11_wordOf_43 : decode cX11_wordOf 43 = .ok (.goto 11, 3) := by decide +kernel
theorem dX11_wordOf_46 : decode cX11_wordOf 46 = .ok (.aload_n 0, 1) := by decide +kernel
theorem dX11_wordOf_47 : decode cX11_wordOf 47 = .ok (.iload_n 1, 1) := by decide +kernel
theorem dX11_wordOf_48 : decode cX11_wordOf 48 = .ok (.iconst 3, 1) := by decide +kernel
theorem dX11_wordOf_49 : decode cX11_wordOf 49 = .ok (.iload_n 2, 1) := by decide +kernel
theorem dX11_wordOf_50 : decode cX11_wordOf 50 = .ok (.iadd, 1) := by decide +kernel
theorem dX11_wordOf_51 : decode cX11_wordOf 51 = .ok (.invokevirtual 210, 3) := by decide +kernel
theorem dX11_wordOf_54 : decode cX11_wordOf 54 = .ok (.ireturn, 1) := by decide +kernel
theorem dX11_find_0 : decode cX11_find 0 = .ok (.aload_n 0, 1) := by decide +kernel
theorem dX11_find_1 : decode cX11_find 1 = .ok (.iconst 0, 1) := by decide +kernel
theorem dX11_find_2 : decode cX11_find 2 = .ok (.putfield 79, 3) := by decide +kernel
theorem dX11_find_5 : decode cX11_find 5 = .ok (.iconst 0, 1) := by decide +kernel
theorem dX11_find_6 : decode cX11_find 6 = .ok (.istore_n 3, 1) := by decide +kernel
theorem dX11_find_7 : decode cX11_find 7 = .ok (.iload_n 3, 1) := by decide +kernel
theorem dX11_find_8 : decode cX11_find 8 = .ok (.i2l, 1) := by decide +kernel
theorem dX11_find_9 : decode cX11_find 9 = .ok (.aload_n 0, 1) := by decide +kernel
theorem dX11_find_10 : decode cX11_find 10 = .ok (.getfield 9, 3) := by decide +kernel
theorem dX11_find_13 : decode cX11_find 13 = .ok (.bipush 7, 2) := by decide +kernel
theorem dX11_find_15 : decode cX11_find 15 = .ok (.laload, 1) := by decide +kernel
theorem dX11_find_16 : decode cX11_find 16 = .ok (.lcmp, 1) := by decide +kernel
theorem dX11_find_17 : decode cX11_find 17 = .ok (.ifCond .ge 26, 3) := by decide +kernel
theorem dX11_find_20 : decode cX11_find 20 = .ok (.aload_n 0, 1) := by decide +kernel
theorem dX11_find_21 : decode cX11_find 21 = .ok (.getfield 9, 3) := by decide +kernel
theorem dX11_find_24 : decode cX11_find 24 = .ok (.sipush 475, 3) := by decide +kernel
theorem dX11_find_27 : decode cX11_find 27 = .ok (.iload_n 3, 1) := by decide +kernel
theorem dX11_find_28 : decode cX11_find 28 = .ok (.iadd, 1) := by decide +kernel
theorem dX11_find_29 : decode cX11_find 29 = .ok (.laload, 1) := by decide +kernel
theorem dX11_find_30 : decode cX11_find 30 = .ok (.lload_n 1, 1) := by decide +kernel
theorem dX11_find_31 : decode cX11_find 31 = .ok (.lcmp, 1) := by decide +kernel
theorem dX11_find_32 : decode cX11_find 32 = .ok (.ifCond .ne 5, 3) := by decide +kernel
theorem dX11_find_35 : decode cX11_find 35 = .ok (.iload_n 3, 1) := by decide +kernel
theorem dX11_find_36 : decode cX11_find 36 = .ok (.ireturn, 1) := by decide +kernel
theorem dX11_find_37 : decode cX11_find 37 = .ok (.iinc 3 1, 3) := by decide +kernel
theorem dX11_find_40 : decode cX11_find 40 = .ok (.goto (-33), 3) := by decide +kernel
theorem dX11_find_43 : decode cX11_find 43 = .ok (.iconst (-1), 1) := by decide +kernel
theorem dX11_find_44 : decode cX11_find 44 = .ok (.ireturn, 1) := by decide +kernel
set_option maxRecDepth 100000 in
theorem ggX11_usesIn_X11_of : GoodIn wsX11_usesIn wsX11_of := goodIn_r _ [5, 6, 7, 8, 9, 10, 11, 12, 13, 14, 15, 16, 17, 18, 19, 20, 21, 22, 23, 24, 25, 26, 27, 28, 29, 30, 31, 32, 33] rfl (by decide +kernel)
set_option maxRecDepth 100000 in
theorem gX11_usesIn_X11_of : GoodIn wsX11_usesIn (wsV RX11 210 RX11 yX11_of wsX11_of) := goodIn_app (goodIn_of _ (by decide +kernel)) ggX11_usesIn_X11_of
theorem dX11_usesIn_0 : decode cX11_usesIn 0 = .ok (.iconst 0, 1) := by decide +kernel
theorem dX11_usesIn_1 : decode cX11_usesIn 1 = .ok (.istore 4, 2) := by decide +kernel
theorem dX11_usesIn_3 : decode cX11_usesIn 3 = .ok (.iload_n 2, 1) := by decide +kernel
theorem dX11_usesIn_4 : decode cX11_usesIn 4 = .ok (.istore 5, 2) := by decide +kernel
theorem dX11_usesIn_6 : decode cX11_usesIn 6 = .ok (.iload 5, 2) := by decide +kernel
theorem dX11_usesIn_8 : decode cX11_usesIn 8 = .ok (.iload_n 3, 1) := by decide +kernel
theorem dX11_usesIn_9 : decode cX11_usesIn 9 = .ok (.if_icmp .gt 54, 3) := by decide +kernel
theorem dX11_usesIn_12 : decode cX11_usesIn 12 = .ok (.iconst 0, 1) := by decide +kernel
theorem dX11_usesIn_13 : decode cX11_usesIn 13 = .ok (.istore 6, 2) := by decide +kernel
theorem dX11_usesIn_15 : decode cX11_usesIn 15 = .ok (.iload 6, 2) := by decide +kernel
theorem dX11_usesIn_17 : decode cX11_usesIn 17 = .ok (.aload_n 0, 1) := by decide +kernel
theorem dX11_usesIn_18 : decode cX11_usesIn 18 = .ok (.iload 5, 2) := by decide +kernel
theorem dX11_usesIn_20 : decode cX11_usesIn 20 = .ok (.iconst 2, 1) := by decide +kernel
theorem dX11_usesIn_21 : decode cX11_usesIn 21 = .ok (.invokevirtual 210, 3) := by decide +kernel
theorem dX11_usesIn_24 : decode cX11_usesIn 24 = .ok (.if_icmp .ge 33, 3) := by decide +kernel
theorem dX11_usesIn_27 : decode cX11_usesIn 27 = .ok (.iload 4, 2) := by decide +kernel
theorem dX11_usesIn_29 : decode cX11_usesIn 29 = .ok (.aload_n 0, 1) := by decide +kernel
theorem dX11_usesIn_30 : decode cX11_usesIn 30 = .ok (.iload 5, 2) := by decide +kernel
theorem dX11_usesIn_32 : decode cX11_usesIn 32 = .ok (.iconst 3, 1) := by decide +kernel
theorem dX11_usesIn_33 : decode cX11_usesIn 33 = .ok (.iload 6, 2) := by decide +kernel
theorem dX11_usesIn_35 : decode cX11_usesIn 35 = .ok (.iadd, 1) := by decide +kernel
theorem dX11_usesIn_36 : decode cX11_usesIn 36 = .ok (.invokevirtual 210, 3) := by decide +kernel
theorem dX11_usesIn_39 : decode cX11_usesIn 39 = .ok (.iload_n 1, 1) := by decide +kernel
theorem dX11_usesIn_40 : decode cX11_usesIn 40 = .ok (.if_icmp .ne 7, 3) := by decide +kernel
theorem dX11_usesIn_43 : decode cX11_usesIn 43 = .ok (.iconst 1, 1) := by decide +kernel
theorem dX11_usesIn_44 : decode cX11_usesIn 44 = .ok (.goto 4, 3) := by decide +kernel
theorem dX11_usesIn_47 : decode cX11_usesIn 47 = .ok (.iconst 0, 1) := by decide +kernel
theorem dX11_usesIn_48 : decode cX11_usesIn 48 = .ok (.iadd, 1) := by decide +kernel
theorem dX11_usesIn_49 : decode cX11_usesIn 49 = .ok (.istore 4, 2) := by decide +kernel
theorem dX11_usesIn_51 : decode cX11_usesIn 51 = .ok (.iinc 6 1, 3) := by decide +kernel
theorem dX11_usesIn_54 : decode cX11_usesIn 54 = .ok (.goto (-39), 3) := by decide +kernel
theorem dX11_usesIn_57 : decode cX11_usesIn 57 = .ok (.iinc 5 1, 3) := by decide +kernel
theorem dX11_usesIn_60 : decode cX11_usesIn 60 = .ok (.goto (-54), 3) := by decide +kernel
theorem dX11_usesIn_63 : decode cX11_usesIn 63 = .ok (.iload 4, 2) := by decide +kernel
theorem dX11_usesIn_65 : decode cX11_usesIn 65 = .ok (.ireturn, 1) := by decide +kernel
set_option maxRecDepth 100000 in
theorem ggX11_uses_X11_isKnown : GoodIn wsX11_uses wsX11_isKnown := goodIn_r _ [6, 7, 8, 9, 5, 10, 27, 28, 29, 30, 31, 32, 33, 34, 35, 36, 37, 38, 39, 40, 41, 42, 43, 44, 45, 46, 47, 48, 49, 50, 51, 52, 53] rfl (by decide +kernel)
set_option maxRecDepth 100000 in
theorem gX11_uses_X11_isKnown : GoodIn wsX11_uses (wsV RX11 233 RX11 yX11_isKnown wsX11_isKnown) := goodIn_app (goodIn_of _ (by decide +kernel)) ggX11_uses_X11_isKnown
set_option maxRecDepth 100000 in
theorem ggX11_uses_X11_isSegment : GoodIn wsX11_uses wsX11_isSegment := goodIn_r _ [14, 15, 16, 17, 5, 18, 7, 8, 9, 10, 27, 28, 29, 30, 31, 32, 33, 34, 35, 36, 37, 38, 39, 40, 41, 42, 43, 44, 45, 46, 47, 48, 49, 50, 51, 52, 53] rfl (by decide +kernel)
set_option maxRecDepth 100000 in
theorem gX11_uses_X11_isSegment : GoodIn wsX11_uses (wsV RX11 225 RX11 yX11_isSegment wsX11_isSegment) := goodIn_app (goodIn_of _ (by decide +kernel)) ggX11_uses_X11_isSegment
set_option maxRecDepth 100000 in
theorem ggX11_uses_X11_usesIn : GoodIn wsX11_uses wsX11_usesIn := goodIn_r _ [22, 23, 24, 25, 5, 26, 7, 27, 28, 29, 30, 31, 32, 33, 34, 35, 36, 37, 38, 39, 40, 41, 42, 43, 44, 45, 46, 47, 48, 49, 50, 51, 52, 53] rfl (by decide +kernel)
set_option maxRecDepth 100000 in
theorem gX11_uses_X11_usesIn : GoodIn wsX11_uses (wsV RX11 236 RX11 yX11_usesIn wsX11_usesIn) := goodIn_app (goodIn_of _ (by decide +kernel)) ggX11_uses_X11_usesIn
theorem dX11_uses_0 : decode cX11_uses 0 = .ok (.aload_n 0, 1) := by decide +kernel
theorem dX11_uses_1 : decode cX11_uses 1 = .ok (.aload_n 0, 1) := by decide +kernel
theorem dX11_uses_2 : decode cX11_uses 2 = .ok (.iload_n 1, 1) := by decide +kernel
theorem dX11_uses_3 : decode cX11_uses 3 = .ok (.invokevirtual 233, 3) := by decide +kernel
theorem dX11_uses_6 : decode cX11_uses 6 = .ok (.ifCond .eq 19, 3) := by decide +kernel
theorem dX11_uses_9 : decode cX11_uses 9 = .ok (.aload_n 0, 1) := by decide +kernel
theorem dX11_uses_10 : decode cX11_uses 10 = .ok (.iload_n 2, 1) := by decide +kernel
theorem dX11_uses_11 : decode cX11_uses 11 = .ok (.invokevirtual 225, 3) := by decide +kernel
theorem dX11_uses_14 : decode cX11_uses 14 = .ok (.ifCond .eq 11, 3) := by decide +kernel
theorem dX11_uses_17 : decode cX11_uses 17 = .ok (.aload_n 0, 1) := by decide +kernel
theorem dX11_uses_18 : decode cX11_uses 18 = .ok (.iload_n 3, 1) := by decide +kernel
theorem dX11_uses_19 : decode cX11_uses 19 = .ok (.invokevirtual 225, 3) := by decide +kernel
theorem dX11_uses_22 : decode cX11_uses 22 = .ok (.ifCond .ne 7, 3) := by decide +kernel
theorem dX11_uses_25 : decode cX11_uses 25 = .ok (.iconst 1, 1) := by decide +kernel
theorem dX11_uses_26 : decode cX11_uses 26 = .ok (.goto 13, 3) := by decide +kernel
theorem dX11_uses_29 : decode cX11_uses 29 = .ok (.iload_n 3, 1) := by decide +kernel
theorem dX11_uses_30 : decode cX11_uses 30 = .ok (.iload_n 2, 1) := by decide +kernel
theorem dX11_uses_31 : decode cX11_uses 31 = .ok (.if_icmp .ge 7, 3) := by decide +kernel
theorem dX11_uses_34 : decode cX11_uses 34 = .ok (.iconst 2, 1) := by decide +kernel
theorem dX11_uses_35 : decode cX11_uses 35 = .ok (.goto 4, 3) := by decide +kernel
theorem dX11_uses_38 : decode cX11_uses 38 = .ok (.iconst 0, 1) := by decide +kernel
theorem dX11_uses_39 : decode cX11_uses 39 = .ok (.putfield 79, 3) := by decide +kernel
theorem dX11_uses_42 : decode cX11_uses 42 = .ok (.aload_n 0, 1) := by decide +kernel
theorem dX11_uses_43 : decode cX11_uses 43 = .ok (.getfield 79, 3) := by decide +kernel
theorem dX11_uses_46 : decode cX11_uses 46 = .ok (.ifCond .le 7, 3) := by decide +kernel
theorem dX11_uses_49 : decode cX11_uses 49 = .ok (.iconst 0, 1) := by decide +kernel
theorem dX11_uses_50 : decode cX11_uses 50 = .ok (.goto 10, 3) := by decide +kernel
theorem dX11_uses_53 : decode cX11_uses 53 = .ok (.aload_n 0, 1) := by decide +kernel
theorem dX11_uses_54 : decode cX11_uses 54 = .ok (.iload_n 1, 1) := by decide +kernel
theorem dX11_uses_55 : decode cX11_uses 55 = .ok (.iload_n 2, 1) := by decide +kernel
theorem dX11_uses_56 : decode cX11_uses 56 = .ok (.iload_n 3, 1) := by decide +kernel
theorem dX11_uses_57 : decode cX11_uses 57 = .ok (.invokevirtual 236, 3) := by decide +kernel
theorem dX11_uses_60 : decode cX11_uses 60 = .ok (.ireturn, 1) := by decide +kernel
set_option maxRecDepth 100000 in
theorem ggX11_puts_X11_keeps : GoodIn wsX11_puts wsX11_keeps := goodIn_r _ [6, 7, 8, 1, 13, 14, 15, 16, 17, 18, 19, 20, 21, 22, 23, 24, 25, 26, 27, 28, 29, 30, 31, 32, 33, 34, 35, 36, 37, 38, 39] rfl (by decide +kernel)
set_option maxRecDepth 100000 in
theorem gX11_puts_X11_keeps : GoodIn wsX11_puts (wsV RX11 204 RX11 yX11_keeps wsX11_keeps) := goodIn_app (goodIn_of _ (by decide +kernel)) ggX11_puts_X11_keeps
set_option maxRecDepth 100000 in
theorem ggX11_puts_X11_of : GoodIn wsX11_puts wsX11_of := goodIn_r _ [12, 1, 13, 14, 15, 16, 17, 18, 19, 20, 21, 22, 23, 24, 25, 26, 27, 28, 29, 30, 31, 32, 33, 34, 35, 36, 37, 38, 39] rfl (by decide +kernel)
set_option maxRecDepth 100000 in
theorem gX11_puts_X11_of : GoodIn wsX11_puts (wsV RX11 210 RX11 yX11_of wsX11_of) := goodIn_app (goodIn_of _ (by decide +kernel)) ggX11_puts_X11_of
theorem dX11_puts_0 : decode cX11_puts 0 = .ok (.aload_n 0, 1) := by decide +kernel
theorem dX11_puts_1 : decode cX11_puts 1 = .ok (.invokevirtual 204, 3) := by decide +kernel
theorem dX11_puts_4 : decode cX11_puts 4 = .ok (.aload_n 0, 1) := by decide +kernel
theorem dX11_puts_5 : decode cX11_puts 5 = .ok (.iload_n 1, 1) := by decide +kernel
theorem dX11_puts_6 : decode cX11_puts 6 = .ok (.iload_n 2, 1) := by decide +kernel
theorem dX11_puts_7 : decode cX11_puts 7 = .ok (.invokevirtual 210, 3) := by decide +kernel
theorem dX11_puts_10 : decode cX11_puts 10 = .ok (.istore 4, 2) := by decide +kernel
theorem dX11_puts_12 : decode cX11_puts 12 = .ok (.aload_n 0, 1) := by decide +kernel
theorem dX11_puts_13 : decode cX11_puts 13 = .ok (.getfield 9, 3) := by decide +kernel
theorem dX11_puts_16 : decode cX11_puts 16 = .ok (.bipush 10, 2) := by decide +kernel
theorem dX11_puts_18 : decode cX11_puts 18 = .ok (.bipush 12, 2) := by decide +kernel
theorem dX11_puts_20 : decode cX11_puts 20 = .ok (.iload_n 1, 1) := by decide +kernel
theorem dX11_puts_21 : decode cX11_puts 21 = .ok (.imul, 1) := by decide +kernel
theorem dX11_puts_22 : decode cX11_puts 22 = .ok (.iadd, 1) := by decide +kernel
theorem dX11_puts_23 : decode cX11_puts 23 = .ok (.iload_n 2, 1) := by decide +kernel
theorem dX11_puts_24 : decode cX11_puts 24 = .ok (.iadd, 1) := by decide +kernel
theorem dX11_puts_25 : decode cX11_puts 25 = .ok (.iload_n 3, 1) := by decide +kernel
theorem dX11_puts_26 : decode cX11_puts 26 = .ok (.i2l, 1) := by decide +kernel
theorem dX11_puts_27 : decode cX11_puts 27 = .ok (.lastore, 1) := by decide +kernel
theorem dX11_puts_28 : decode cX11_puts 28 = .ok (.iload 4, 2) := by decide +kernel
theorem dX11_puts_30 : decode cX11_puts 30 = .ok (.ireturn, 1) := by decide +kernel
set_option maxRecDepth 100000 in
theorem ggX11_setDuration_X11_isSegment : GoodIn wsX11_setDuration wsX11_isSegment := goodIn_r _ [7, 8, 9, 10, 6, 11, 12, 13, 14, 15, 30, 31, 32, 33, 34, 35, 36, 37, 38, 39, 40, 41, 42, 43, 44, 45, 46, 47, 48, 49, 50, 51, 52, 53, 54, 55, 56] rfl (by decide +kernel)
set_option maxRecDepth 100000 in
theorem gX11_setDuration_X11_isSegment : GoodIn wsX11_setDuration (wsV RX11 225 RX11 yX11_isSegment wsX11_isSegment) := goodIn_app (goodIn_of _ (by decide +kernel)) ggX11_setDuration_X11_isSegment
set_option maxRecDepth 100000 in
theorem ggX11_setDuration_X11_isIn : GoodIn wsX11_setDuration wsX11_isIn := goodIn_r _ [15] rfl (by decide +kernel)
set_option maxRecDepth 100000 in
theorem gX11_setDuration_X11_isIn : GoodIn wsX11_setDuration (va_wsS RX11 95 yX11_isIn wsX11_isIn) := goodIn_app (goodIn_of _ (by decide +kernel)) ggX11_setDuration_X11_isIn
set_option maxRecDepth 100000 in
theorem ggX11_setDuration_X11_puts : GoodIn wsX11_setDuration wsX11_puts := goodIn_r _ [19, 12, 20, 21, 22, 6, 23, 24, 25, 26, 27, 28, 29, 30, 31, 32, 33, 34, 35, 36, 37, 38, 39, 40, 41, 42, 43, 44, 45, 46, 47, 48, 49, 50, 51, 52, 53, 54, 55, 56] rfl (by decide +kernel)
set_option maxRecDepth 100000 in
theorem gX11_setDuration_X11_puts : GoodIn wsX11_setDuration (wsV RX11 242 RX11 yX11_puts wsX11_puts) := goodIn_app (goodIn_of _ (by decide +kernel)) ggX11_setDuration_X11_puts
theorem dX11_setDuration_0 : decode cX11_setDuration 0 = .ok (.aload_n 0, 1) := by decide +kernel
theorem dX11_setDuration_1 : decode cX11_setDuration 1 = .ok (.aload_n 0, 1) := by decide +kernel
theorem dX11_setDuration_2 : decode cX11_setDuration 2 = .ok (.iload_n 1, 1) := by decide +kernel
theorem dX11_setDuration_3 : decode cX11_setDuration 3 = .ok (.invokevirtual 225, 3) := by decide +kernel
theorem dX11_setDuration_6 : decode cX11_setDuration 6 = .ok (.ifCond .ne 7, 3) := by decide +kernel
theorem dX11_setDuration_9 : decode cX11_setDuration 9 = .ok (.iconst 1, 1) := by decide +kernel
theorem dX11_setDuration_10 : decode cX11_setDuration 10 = .ok (.goto 20, 3) := by decide +kernel
theorem dX11_setDuration_13 : decode cX11_setDuration 13 = .ok (.iload_n 2, 1) := by decide +kernel
theorem dX11_setDuration_14 : decode cX11_setDuration 14 = .ok (.i2l, 1) := by decide +kernel
theorem dX11_setDuration_15 : decode cX11_setDuration 15 = .ok (.lconst 1, 1) := by decide +kernel
theorem dX11_setDuration_16 : decode cX11_setDuration 16 = .ok (.ldc2_w 240, 3) := by decide +kernel
theorem dX11_setDuration_19 : decode cX11_setDuration 19 = .ok (.invokestatic 95, 3) := by decide +kernel
theorem dX11_setDuration_22 : decode cX11_setDuration 22 = .ok (.ifCond .eq 7, 3) := by decide +kernel
theorem dX11_setDuration_25 : decode cX11_setDuration 25 = .ok (.iconst 0, 1) := by decide +kernel
theorem dX11_setDuration_26 : decode cX11_setDuration 26 = .ok (.goto 4, 3) := by decide +kernel
theorem dX11_setDuration_29 : decode cX11_setDuration 29 = .ok (.iconst 2, 1) := by decide +kernel
theorem dX11_setDuration_30 : decode cX11_setDuration 30 = .ok (.putfield 79, 3) := by decide +kernel
theorem dX11_setDuration_33 : decode cX11_setDuration 33 = .ok (.aload_n 0, 1) := by decide +kernel
theorem dX11_setDuration_34 : decode cX11_setDuration 34 = .ok (.getfield 79, 3) := by decide +kernel
theorem dX11_setDuration_37 : decode cX11_setDuration 37 = .ok (.ifCond .le 7, 3) := by decide +kernel
theorem dX11_setDuration_40 : decode cX11_setDuration 40 = .ok (.iconst 0, 1) := by decide +kernel
theorem dX11_setDuration_41 : decode cX11_setDuration 41 = .ok (.goto 10, 3) := by decide +kernel
theorem dX11_setDuration_44 : decode cX11_setDuration 44 = .ok (.aload_n 0, 1) := by decide +kernel
theorem dX11_setDuration_45 : decode cX11_setDuration 45 = .ok (.iload_n 1, 1) := by decide +kernel
theorem dX11_setDuration_46 : decode cX11_setDuration 46 = .ok (.iconst 0, 1) := by decide +kernel
theorem dX11_setDuration_47 : decode cX11_setDuration 47 = .ok (.iload_n 2, 1) := by decide +kernel
theorem dX11_setDuration_48 : decode cX11_setDuration 48 = .ok (.invokevirtual 242, 3) := by decide +kernel
theorem dX11_setDuration_51 : decode cX11_setDuration 51 = .ok (.ireturn, 1) := by decide +kernel
set_option maxRecDepth 100000 in
theorem ggX11_setPause_X11_isSegment : GoodIn wsX11_setPause wsX11_isSegment := goodIn_r _ [7, 8, 9, 10, 6, 11, 12, 13, 14, 15, 30, 31, 32, 33, 34, 35, 36, 37, 38, 39, 40, 41, 42, 43, 44, 45, 46, 47, 48, 49, 50, 51, 52, 53, 54, 55, 56] rfl (by decide +kernel)
set_option maxRecDepth 100000 in
theorem gX11_setPause_X11_isSegment : GoodIn wsX11_setPause (wsV RX11 225 RX11 yX11_isSegment wsX11_isSegment) := goodIn_app (goodIn_of _ (by decide +kernel)) ggX11_setPause_X11_isSegment
set_option maxRecDepth 100000 in
theorem ggX11_setPause_X11_isIn : GoodIn wsX11_setPause wsX11_isIn := goodIn_r _ [15] rfl (by decide +kernel)
set_option maxRecDepth 100000 in
theorem gX11_setPause_X11_isIn : GoodIn wsX11_setPause (va_wsS RX11 95 yX11_isIn wsX11_isIn) := goodIn_app (goodIn_of _ (by decide +kernel)) ggX11_setPause_X11_isIn
set_option maxRecDepth 100000 in
theorem ggX11_setPause_X11_puts : GoodIn wsX11_setPause wsX11_puts := goodIn_r _ [19, 12, 20, 21, 22, 6, 23, 24, 25, 26, 27, 28, 29, 30, 31, 32, 33, 34, 35, 36, 37, 38, 39, 40, 41, 42, 43, 44, 45, 46, 47, 48, 49, 50, 51, 52, 53, 54, 55, 56] rfl (by decide +kernel)
set_option maxRecDepth 100000 in
theorem gX11_setPause_X11_puts : GoodIn wsX11_setPause (wsV RX11 242 RX11 yX11_puts wsX11_puts) := goodIn_app (goodIn_of _ (by decide +kernel)) ggX11_setPause_X11_puts
theorem dX11_setPause_0 : decode cX11_setPause 0 = .ok (.aload_n 0, 1) := by decide +kernel
theorem dX11_setPause_1 : decode cX11_setPause 1 = .ok (.aload_n 0, 1) := by decide +kernel
theorem dX11_setPause_2 : decode cX11_setPause 2 = .ok (.iload_n 1, 1) := by decide +kernel
theorem dX11_setPause_3 : decode cX11_setPause 3 = .ok (.invokevirtual 225, 3) := by decide +kernel
theorem dX11_setPause_6 : decode cX11_setPause 6 = .ok (.ifCond .ne 7, 3) := by decide +kernel
theorem dX11_setPause_9 : decode cX11_setPause 9 = .ok (.iconst 1, 1) := by decide +kernel
theorem dX11_setPause_10 : decode cX11_setPause 10 = .ok (.goto 20, 3) := by decide +kernel
theorem dX11_setPause_13 : decode cX11_setPause 13 = .ok (.iload_n 2, 1) := by decide +kernel
theorem dX11_setPause_14 : decode cX11_setPause 14 = .ok (.i2l, 1) := by decide +kernel
theorem dX11_setPause_15 : decode cX11_setPause 15 = .ok (.lconst 0, 1) := by decide +kernel
theorem dX11_setPause_16 : decode cX11_setPause 16 = .ok (.ldc2_w 245, 3) := by decide +kernel
theorem dX11_setPause_19 : decode cX11_setPause 19 = .ok (.invokestatic 95, 3) := by decide +kernel
theorem dX11_setPause_22 : decode cX11_setPause 22 = .ok (.ifCond .eq 7, 3) := by decide +kernel
theorem dX11_setPause_25 : decode cX11_setPause 25 = .ok (.iconst 0, 1) := by decide +kernel
theorem dX11_setPause_26 : decode cX11_setPause 26 = .ok (.goto 4, 3) := by decide +kernel
theorem dX11_setPause_29 : decode cX11_setPause 29 = .ok (.iconst 2, 1) := by decide +kernel
theorem dX11_setPause_30 : decode cX11_setPause 30 = .ok (.putfield 79, 3) := by decide +kernel
theorem dX11_setPause_33 : decode cX11_setPause 33 = .ok (.aload_n 0, 1) := by decide +kernel
theorem dX11_setPause_34 : decode cX11_setPause 34 = .ok (.getfield 79, 3) := by decide +kernel
theorem dX11_setPause_37 : decode cX11_setPause 37 = .ok (.ifCond .le 7, 3) := by decide +kernel
theorem dX11_setPause_40 : decode cX11_setPause 40 = .ok (.iconst 0, 1) := by decide +kernel
theorem dX11_setPause_41 : decode cX11_setPause 41 = .ok (.goto 10, 3) := by decide +kernel
theorem dX11_setPause_44 : decode cX11_setPause 44 = .ok (.aload_n 0, 1) := by decide +kernel
theorem dX11_setPause_45 : decode cX11_setPause 45 = .ok (.iload_n 1, 1) := by decide +kernel
theorem dX11_setPause_46 : decode cX11_setPause 46 = .ok (.iconst 1, 1) := by decide +kernel
theorem dX11_setPause_47 : decode cX11_setPause 47 = .ok (.iload_n 2, 1) := by decide +kernel
theorem dX11_setPause_48 : decode cX11_setPause 48 = .ok (.invokevirtual 242, 3) := by decide +kernel
theorem dX11_setPause_51 : decode cX11_setPause 51 = .ok (.ireturn, 1) := by decide +kernel
set_option maxRecDepth 100000 in
theorem ggX11_addWord_X11_isSegment : GoodIn wsX11_addWord wsX11_isSegment := goodIn_r _ [7, 8, 9, 10, 6, 11, 2, 12, 13, 14, 33, 34, 35, 36, 37, 38, 39, 40, 41, 42, 43, 44, 45, 46, 47, 48, 49, 50, 51, 52, 53, 54, 55, 56, 57, 58, 59] rfl (by decide +kernel)
set_option maxRecDepth 100000 in
theorem gX11_addWord_X11_isSegment : GoodIn wsX11_addWord (wsV RX11 225 RX11 yX11_isSegment wsX11_isSegment) := goodIn_app (goodIn_of _ (by decide +kernel)) ggX11_addWord_X11_isSegment
set_option maxRecDepth 100000 in
theorem ggX11_addWord_X11_isKnown : GoodIn wsX11_addWord wsX11_isKnown := goodIn_r _ [18, 2, 12, 13, 6, 14, 33, 34, 35, 36, 37, 38, 39, 40, 41, 42, 43, 44, 45, 46, 47, 48, 49, 50, 51, 52, 53, 54, 55, 56, 57, 58, 59] rfl (by decide +kernel)
set_option maxRecDepth 100000 in
theorem gX11_addWord_X11_isKnown : GoodIn wsX11_addWord (wsV RX11 233 RX11 yX11_isKnown wsX11_isKnown) := goodIn_app (goodIn_of _ (by decide +kernel)) ggX11_addWord_X11_isKnown
set_option maxRecDepth 100000 in
theorem ggX11_addWord_X11_of : GoodIn wsX11_addWord wsX11_of := goodIn_r _ [22, 2, 33, 34, 35, 36, 37, 38, 39, 40, 41, 42, 43, 44, 45, 46, 47, 48, 49, 50, 51, 52, 53, 54, 55, 56, 57, 58, 59] rfl (by decide +kernel)
set_option maxRecDepth 100000 in
theorem gX11_addWord_X11_of : GoodIn wsX11_addWord (wsV RX11 210 RX11 yX11_of wsX11_of) := goodIn_app (goodIn_of _ (by decide +kernel)) ggX11_addWord_X11_of
set_option maxRecDepth 100000 in
theorem ggX11_addWord_X11_puts : GoodIn wsX11_addWord wsX11_puts := goodIn_r _ [26, 2, 27, 28, 29, 6, 30, 31, 32, 19, 20, 21, 22, 33, 34, 35, 36, 37, 38, 39, 40, 41, 42, 43, 44, 45, 46, 47, 48, 49, 50, 51, 52, 53, 54, 55, 56, 57, 58, 59] rfl (by decide +kernel)
set_option maxRecDepth 100000 in
theorem gX11_addWord_X11_puts : GoodIn wsX11_addWord (wsV RX11 242 RX11 yX11_puts wsX11_puts) := goodIn_app (goodIn_of _ (by decide +kernel)) ggX11_addWord_X11_puts
theorem dX11_addWord_0 : decode cX11_addWord 0 = .ok (.aload_n 0, 1) := by decide +kernel
theorem dX11_addWord_1 : decode cX11_addWord 1 = .ok (.aload_n 0, 1) := by decide +kernel
theorem dX11_addWord_2 : decode cX11_addWord 2 = .ok (.iload_n 1, 1) := by decide +kernel
theorem dX11_addWord_3 : decode cX11_addWord 3 = .ok (.invokevirtual 225, 3) := by decide +kernel
theorem dX11_addWord_6 : decode cX11_addWord 6 = .ok (.ifCond .eq 11, 3) := by decide +kernel
theorem dX11_addWord_9 : decode cX11_addWord 9 = .ok (.aload_n 0, 1) := by decide +kernel
theorem dX11_addWord_10 : decode cX11_addWord 10 = .ok (.iload_n 2, 1) := by decide +kernel
theorem dX11_addWord_11 : decode cX11_addWord 11 = .ok (.invokevirtual 233, 3) := by decide +kernel
theorem dX11_addWord_14 : decode cX11_addWord 14 = .ok (.ifCond .ne 7, 3) := by decide +kernel
theorem dX11_addWord_17 : decode cX11_addWord 17 = .ok (.iconst 1, 1) := by decide +kernel
theorem dX11_addWord_18 : decode cX11_addWord 18 = .ok (.goto 19, 3) := by decide +kernel
theorem dX11_addWord_21 : decode cX11_addWord 21 = .ok (.aload_n 0, 1) := by decide +kernel
theorem dX11_addWord_22 : decode cX11_addWord 22 = .ok (.iload_n 1, 1) := by decide +kernel
theorem dX11_addWord_23 : decode cX11_addWord 23 = .ok (.iconst 2, 1) := by decide +kernel
theorem dX11_addWord_24 : decode cX11_addWord 24 = .ok (.invokevirtual 210, 3) := by decide +kernel
theorem dX11_addWord_27 : decode cX11_addWord 27 = .ok (.bipush 8, 2) := by decide +kernel
theorem dX11_addWord_29 : decode cX11_addWord 29 = .ok (.if_icmp .ne 7, 3) := by decide +kernel
theorem dX11_addWord_32 : decode cX11_addWord 32 = .ok (.iconst 2, 1) := by decide +kernel
theorem dX11_addWord_33 : decode cX11_addWord 33 = .ok (.goto 4, 3) := by decide +kernel
theorem dX11_addWord_36 : decode cX11_addWord 36 = .ok (.iconst 0, 1) := by decide +kernel
theorem dX11_addWord_37 : decode cX11_addWord 37 = .ok (.putfield 79, 3) := by decide +kernel
theorem dX11_addWord_40 : decode cX11_addWord 40 = .ok (.aload_n 0, 1) := by decide +kernel
theorem dX11_addWord_41 : decode cX11_addWord 41 = .ok (.getfield 79, 3) := by decide +kernel
theorem dX11_addWord_44 : decode cX11_addWord 44 = .ok (.ifCond .le 5, 3) := by decide +kernel
theorem dX11_addWord_47 : decode cX11_addWord 47 = .ok (.iconst 0, 1) := by decide +kernel
theorem dX11_addWord_48 : decode cX11_addWord 48 = .ok (.ireturn, 1) := by decide +kernel
theorem dX11_addWord_49 : decode cX11_addWord 49 = .ok (.aload_n 0, 1) := by decide +kernel
theorem dX11_addWord_50 : decode cX11_addWord 50 = .ok (.iload_n 1, 1) := by decide +kernel
theorem dX11_addWord_51 : decode cX11_addWord 51 = .ok (.iconst 2, 1) := by decide +kernel
theorem dX11_addWord_52 : decode cX11_addWord 52 = .ok (.invokevirtual 210, 3) := by decide +kernel
theorem dX11_addWord_55 : decode cX11_addWord 55 = .ok (.istore_n 3, 1) := by decide +kernel
theorem dX11_addWord_56 : decode cX11_addWord 56 = .ok (.aload_n 0, 1) := by decide +kernel
theorem dX11_addWord_57 : decode cX11_addWord 57 = .ok (.iload_n 1, 1) := by decide +kernel
theorem dX11_addWord_58 : decode cX11_addWord 58 = .ok (.iconst 3, 1) := by decide +kernel
theorem dX11_addWord_59 : decode cX11_addWord 59 = .ok (.iload_n 3, 1) := by decide +kernel
theorem dX11_addWord_60 : decode cX11_addWord 60 = .ok (.iadd, 1) := by decide +kernel
theorem dX11_addWord_61 : decode cX11_addWord 61 = .ok (.iload_n 2, 1) := by decide +kernel
theorem dX11_addWord_62 : decode cX11_addWord 62 = .ok (.invokevirtual 242, 3) := by decide +kernel
theorem dX11_addWord_65 : decode cX11_addWord 65 = .ok (.istore 4, 2) := by decide +kernel
theorem dX11_addWord_67 : decode cX11_addWord 67 = .ok (.aload_n 0, 1) := by decide +kernel
theorem dX11_addWord_68 : decode cX11_addWord 68 = .ok (.getfield 9, 3) := by decide +kernel
theorem dX11_addWord_71 : decode cX11_addWord 71 = .ok (.bipush 10, 2) := by decide +kernel
theorem dX11_addWord_73 : decode cX11_addWord 73 = .ok (.bipush 12, 2) := by decide +kernel
theorem dX11_addWord_75 : decode cX11_addWord 75 = .ok (.iload_n 1, 1) := by decide +kernel
theorem dX11_addWord_76 : decode cX11_addWord 76 = .ok (.imul, 1) := by decide +kernel
theorem dX11_addWord_77 : decode cX11_addWord 77 = .ok (.iadd, 1) := by decide +kernel
theorem dX11_addWord_78 : decode cX11_addWord 78 = .ok (.iconst 2, 1) := by decide +kernel
theorem dX11_addWord_79 : decode cX11_addWord 79 = .ok (.iadd, 1) := by decide +kernel
theorem dX11_addWord_80 : decode cX11_addWord 80 = .ok (.iload_n 3, 1) := by decide +kernel
theorem dX11_addWord_81 : decode cX11_addWord 81 = .ok (.iconst 1, 1) := by decide +kernel
theorem dX11_addWord_82 : decode cX11_addWord 82 = .ok (.iadd, 1) := by decide +kernel
theorem dX11_addWord_83 : decode cX11_addWord 83 = .ok (.i2l, 1) := by decide +kernel
theorem dX11_addWord_84 : decode cX11_addWord 84 = .ok (.lastore, 1) := by decide +kernel
theorem dX11_addWord_85 : decode cX11_addWord 85 = .ok (.iload_n 3, 1) := by decide +kernel
theorem dX11_addWord_86 : decode cX11_addWord 86 = .ok (.iconst 1, 1) := by decide +kernel
theorem dX11_addWord_87 : decode cX11_addWord 87 = .ok (.iadd, 1) := by decide +kernel
theorem dX11_addWord_88 : decode cX11_addWord 88 = .ok (.ireturn, 1) := by decide +kernel
set_option maxRecDepth 100000 in
theorem ggX11_removeSegment_X11_isSegment : GoodIn wsX11_removeSegment wsX11_isSegment := goodIn_r _ [7, 8, 9, 10, 6, 11, 2, 12, 13, 14, 21, 22, 23, 24, 25, 26, 27, 28, 29, 30, 31, 32, 33, 34, 35, 36, 37, 38, 39, 40, 41, 42, 43, 44, 45, 46, 47] rfl (by decide +kernel)
set_option maxRecDepth 100000 in
theorem gX11_removeSegment_X11_isSegment : GoodIn wsX11_removeSegment (wsV RX11 225 RX11 yX11_isSegment wsX11_isSegment) := goodIn_app (goodIn_of _ (by decide +kernel)) ggX11_removeSegment_X11_isSegment
set_option maxRecDepth 100000 in
theorem ggX11_removeSegment_X11_keeps : GoodIn wsX11_removeSegment wsX11_keeps := goodIn_r _ [18, 19, 20, 2, 21, 22, 23, 24, 25, 26, 27, 28, 29, 30, 31, 32, 33, 34, 35, 36, 37, 38, 39, 40, 41, 42, 43, 44, 45, 46, 47] rfl (by decide +kernel)
set_option maxRecDepth 100000 in
theorem gX11_removeSegment_X11_keeps : GoodIn wsX11_removeSegment (wsV RX11 204 RX11 yX11_keeps wsX11_keeps) := goodIn_app (goodIn_of _ (by decide +kernel)) ggX11_removeSegment_X11_keeps
set_option maxRecDepth 100000 in
theorem ggX11_removeSegment_X11_many : GoodIn wsX11_removeSegment wsX11_many := goodIn_r _ [11, 2, 21, 22, 23, 24, 25, 26, 27, 28, 29, 30, 31, 32, 33, 34, 35, 36, 37, 38, 39, 40, 41, 42, 43, 44, 45, 46, 47] rfl (by decide +kernel)
set_option maxRecDepth 100000 in
theorem gX11_removeSegment_X11_many : GoodIn wsX11_removeSegment (wsV RX11 207 RX11 yX11_many wsX11_many) := goodIn_app (goodIn_of _ (by decide +kernel)) ggX11_removeSegment_X11_many
theorem dX11_removeSegment_0 : decode cX11_removeSegment 0 = .ok (.aload_n 0, 1) := by decide +kernel
theorem dX11_removeSegment_1 : decode cX11_removeSegment 1 = .ok (.aload_n 0, 1) := by decide +kernel
theorem dX11_removeSegment_2 : decode cX11_removeSegment 2 = .ok (.iload_n 1, 1) := by decide +kernel
theorem dX11_removeSegment_3 : decode cX11_removeSegment 3 = .ok (.invokevirtual 225, 3) := by decide +kernel
theorem dX11_removeSegment_6 : decode cX11_removeSegment 6 = .ok (.ifCond .eq 7, 3) := by decide +kernel
theorem dX11_removeSegment_9 : decode cX11_removeSegment 9 = .ok (.iconst 0, 1) := by decide +kernel
theorem dX11_removeSegment_10 : decode cX11_removeSegment 10 = .ok (.goto 4, 3) := by decide +kernel
theorem dX11_removeSegment_13 : decode cX11_removeSegment 13 = .ok (.iconst 1, 1) := by decide +kernel
theorem dX11_removeSegment_14 : decode cX11_removeSegment 14 = .ok (.putfield 79, 3) := by decide +kernel
theorem dX11_removeSegment_17 : decode cX11_removeSegment 17 = .ok (.aload_n 0, 1) := by decide +kernel
theorem dX11_removeSegment_18 : decode cX11_removeSegment 18 = .ok (.getfield 79, 3) := by decide +kernel
theorem dX11_removeSegment_21 : decode cX11_removeSegment 21 = .ok (.ifCond .le 5, 3) := by decide +kernel
theorem dX11_removeSegment_24 : decode cX11_removeSegment 24 = .ok (.iconst 0, 1) := by decide +kernel
theorem dX11_removeSegment_25 : decode cX11_removeSegment 25 = .ok (.ireturn, 1) := by decide +kernel
theorem dX11_removeSegment_26 : decode cX11_removeSegment 26 = .ok (.aload_n 0, 1) := by decide +kernel
theorem dX11_removeSegment_27 : decode cX11_removeSegment 27 = .ok (.invokevirtual 204, 3) := by decide +kernel
theorem dX11_removeSegment_30 : decode cX11_removeSegment 30 = .ok (.aload_n 0, 1) := by decide +kernel
theorem dX11_removeSegment_31 : decode cX11_removeSegment 31 = .ok (.invokevirtual 207, 3) := by decide +kernel
theorem dX11_removeSegment_34 : decode cX11_removeSegment 34 = .ok (.iconst 1, 1) := by decide +kernel
theorem dX11_removeSegment_35 : decode cX11_removeSegment 35 = .ok (.isub, 1) := by decide +kernel
theorem dX11_removeSegment_36 : decode cX11_removeSegment 36 = .ok (.istore_n 2, 1) := by decide +kernel
theorem dX11_removeSegment_37 : decode cX11_removeSegment 37 = .ok (.bipush 10, 2) := by decide +kernel
theorem dX11_removeSegment_39 : decode cX11_removeSegment 39 = .ok (.bipush 12, 2) := by decide +kernel
theorem dX11_removeSegment_41 : decode cX11_removeSegment 41 = .ok (.iload_n 1, 1) := by decide +kernel
theorem dX11_removeSegment_42 : decode cX11_removeSegment 42 = .ok (.imul, 1) := by decide +kernel
theorem dX11_removeSegment_43 : decode cX11_removeSegment 43 = .ok (.iadd, 1) := by decide +kernel
theorem dX11_removeSegment_44 : decode cX11_removeSegment 44 = .ok (.istore_n 3, 1) := by decide +kernel
theorem dX11_removeSegment_45 : decode cX11_removeSegment 45 = .ok (.iload_n 3, 1) := by decide +kernel
theorem dX11_removeSegment_46 : decode cX11_removeSegment 46 = .ok (.bipush 10, 2) := by decide +kernel
theorem dX11_removeSegment_48 : decode cX11_removeSegment 48 = .ok (.bipush 12, 2) := by decide +kernel
theorem dX11_removeSegment_50 : decode cX11_removeSegment 50 = .ok (.iload_n 2, 1) := by decide +kernel
theorem dX11_removeSegment_51 : decode cX11_removeSegment 51 = .ok (.imul, 1) := by decide +kernel
theorem dX11_removeSegment_52 : decode cX11_removeSegment 52 = .ok (.iadd, 1) := by decide +kernel
theorem dX11_removeSegment_53 : decode cX11_removeSegment 53 = .ok (.if_icmp .ge 24, 3) := by decide +kernel
theorem dX11_removeSegment_56 : decode cX11_removeSegment 56 = .ok (.aload_n 0, 1) := by decide +kernel
theorem dX11_removeSegment_57 : decode cX11_removeSegment 57 = .ok (.getfield 9, 3) := by decide +kernel
theorem dX11_removeSegment_60 : decode cX11_removeSegment 60 = .ok (.iload_n 3, 1) := by decide +kernel
theorem dX11_removeSegment_61 : decode cX11_removeSegment 61 = .ok (.aload_n 0, 1) := by decide +kernel
theorem dX11_removeSegment_62 : decode cX11_removeSegment 62 = .ok (.getfield 9, 3) := by decide +kernel
theorem dX11_removeSegment_65 : decode cX11_removeSegment 65 = .ok (.iload_n 3, 1) := by decide +kernel
theorem dX11_removeSegment_66 : decode cX11_removeSegment 66 = .ok (.bipush 12, 2) := by decide +kernel
theorem dX11_removeSegment_68 : decode cX11_removeSegment 68 = .ok (.iadd, 1) := by decide +kernel
theorem dX11_removeSegment_69 : decode cX11_removeSegment 69 = .ok (.laload, 1) := by decide +kernel
theorem dX11_removeSegment_70 : decode cX11_removeSegment 70 = .ok (.lastore, 1) := by decide +kernel
theorem dX11_removeSegment_71 : decode cX11_removeSegment 71 = .ok (.iinc 3 1, 3) := by decide +kernel
theorem dX11_removeSegment_74 : decode cX11_removeSegment 74 = .ok (.goto (-29), 3) := by decide +kernel
theorem dX11_removeSegment_77 : decode cX11_removeSegment 77 = .ok (.bipush 10, 2) := by decide +kernel
theorem dX11_removeSegment_79 : decode cX11_removeSegment 79 = .ok (.bipush 12, 2) := by decide +kernel
theorem dX11_removeSegment_81 : decode cX11_removeSegment 81 = .ok (.iload_n 2, 1) := by decide +kernel
theorem dX11_removeSegment_82 : decode cX11_removeSegment 82 = .ok (.imul, 1) := by decide +kernel
theorem dX11_removeSegment_83 : decode cX11_removeSegment 83 = .ok (.iadd, 1) := by decide +kernel
theorem dX11_removeSegment_84 : decode cX11_removeSegment 84 = .ok (.istore_n 3, 1) := by decide +kernel
theorem dX11_removeSegment_85 : decode cX11_removeSegment 85 = .ok (.iload_n 3, 1) := by decide +kernel
theorem dX11_removeSegment_86 : decode cX11_removeSegment 86 = .ok (.bipush 10, 2) := by decide +kernel
theorem dX11_removeSegment_88 : decode cX11_removeSegment 88 = .ok (.bipush 12, 2) := by decide +kernel
theorem dX11_removeSegment_90 : decode cX11_removeSegment 90 = .ok (.iload_n 2, 1) := by decide +kernel
theorem dX11_removeSegment_91 : decode cX11_removeSegment 91 = .ok (.imul, 1) := by decide +kernel
theorem dX11_removeSegment_92 : decode cX11_removeSegment 92 = .ok (.iadd, 1) := by decide +kernel
theorem dX11_removeSegment_93 : decode cX11_removeSegment 93 = .ok (.bipush 12, 2) := by decide +kernel
theorem dX11_removeSegment_95 : decode cX11_removeSegment 95 = .ok (.iadd, 1) := by decide +kernel
theorem dX11_removeSegment_96 : decode cX11_removeSegment 96 = .ok (.if_icmp .ge 16, 3) := by decide +kernel
theorem dX11_removeSegment_99 : decode cX11_removeSegment 99 = .ok (.aload_n 0, 1) := by decide +kernel
theorem dX11_removeSegment_100 : decode cX11_removeSegment 100 = .ok (.getfield 9, 3) := by decide +kernel
theorem dX11_removeSegment_103 : decode cX11_removeSegment 103 = .ok (.iload_n 3, 1) := by decide +kernel
theorem dX11_removeSegment_104 : decode cX11_removeSegment 104 = .ok (.lconst 0, 1) := by decide +kernel
theorem dX11_removeSegment_105 : decode cX11_removeSegment 105 = .ok (.lastore, 1) := by decide +kernel
theorem dX11_removeSegment_106 : decode cX11_removeSegment 106 = .ok (.iinc 3 1, 3) := by decide +kernel
theorem dX11_removeSegment_109 : decode cX11_removeSegment 109 = .ok (.goto (-24), 3) := by decide +kernel
theorem dX11_removeSegment_112 : decode cX11_removeSegment 112 = .ok (.aload_n 0, 1) := by decide +kernel
theorem dX11_removeSegment_113 : decode cX11_removeSegment 113 = .ok (.getfield 9, 3) := by decide +kernel
theorem dX11_removeSegment_116 : decode cX11_removeSegment 116 = .ok (.bipush 6, 2) := by decide +kernel
theorem dX11_removeSegment_118 : decode cX11_removeSegment 118 = .ok (.iload_n 2, 1) := by decide +kernel
theorem dX11_removeSegment_119 : decode cX11_removeSegment 119 = .ok (.i2l, 1) := by decide +kernel
theorem dX11_removeSegment_120 : decode cX11_removeSegment 120 = .ok (.lastore, 1) := by decide +kernel
theorem dX11_removeSegment_121 : decode cX11_removeSegment 121 = .ok (.iload_n 2, 1) := by decide +kernel
theorem dX11_removeSegment_122 : decode cX11_removeSegment 122 = .ok (.ireturn, 1) := by decide +kernel
theorem dX11_swaps_0 : decode cX11_swaps 0 = .ok (.iconst 0, 1) := by decide +kernel
theorem dX11_swaps_1 : decode cX11_swaps 1 = .ok (.istore_n 3, 1) := by decide +kernel
theorem dX11_swaps_2 : decode cX11_swaps 2 = .ok (.iload_n 3, 1) := by decide +kernel
theorem dX11_swaps_3 : decode cX11_swaps 3 = .ok (.bipush 12, 2) := by decide +kernel
theorem dX11_swaps_5 : decode cX11_swaps 5 = .ok (.if_icmp .ge 69, 3) := by decide +kernel
theorem dX11_swaps_8 : decode cX11_swaps 8 = .ok (.aload_n 0, 1) := by decide +kernel
theorem dX11_swaps_9 : decode cX11_swaps 9 = .ok (.getfield 9, 3) := by decide +kernel
theorem dX11_swaps_12 : decode cX11_swaps 12 = .ok (.bipush 10, 2) := by decide +kernel
theorem dX11_swaps_14 : decode cX11_swaps 14 = .ok (.bipush 12, 2) := by decide +kernel
theorem dX11_swaps_16 : decode cX11_swaps 16 = .ok (.iload_n 1, 1) := by decide +kernel
theorem dX11_swaps_17 : decode cX11_swaps 17 = .ok (.imul, 1) := by decide +kernel
theorem dX11_swaps_18 : decode cX11_swaps 18 = .ok (.iadd, 1) := by decide +kernel
theorem dX11_swaps_19 : decode cX11_swaps 19 = .ok (.iload_n 3, 1) := by decide +kernel
theorem dX11_swaps_20 : decode cX11_swaps 20 = .ok (.iadd, 1) := by decide +kernel
theorem dX11_swaps_21 : decode cX11_swaps 21 = .ok (.laload, 1) := by decide +kernel
theorem dX11_swaps_22 : decode cX11_swaps 22 = .ok (.lstore 4, 2) := by decide +kernel
theorem dX11_swaps_24 : decode cX11_swaps 24 = .ok (.aload_n 0, 1) := by decide +kernel
theorem dX11_swaps_25 : decode cX11_swaps 25 = .ok (.getfield 9, 3) := by decide +kernel
theorem dX11_swaps_28 : decode cX11_swaps 28 = .ok (.bipush 10, 2) := by decide +kernel
theorem dX11_swaps_30 : decode cX11_swaps 30 = .ok (.bipush 12, 2) := by decide +kernel
theorem dX11_swaps_32 : decode cX11_swaps 32 = .ok (.iload_n 1, 1) := by decide +kernel
theorem dX11_swaps_33 : decode cX11_swaps 33 = .ok (.imul, 1) := by decide +kernel
theorem dX11_swaps_34 : decode cX11_swaps 34 = .ok (.iadd, 1) := by decide +kernel
theorem dX11_swaps_35 : decode cX11_swaps 35 = .ok (.iload_n 3, 1) := by decide +kernel
theorem dX11_swaps_36 : decode cX11_swaps 36 = .ok (.iadd, 1) := by decide +kernel
theorem dX11_swaps_37 : decode cX11_swaps 37 = .ok (.aload_n 0, 1) := by decide +kernel
theorem dX11_swaps_38 : decode cX11_swaps 38 = .ok (.getfield 9, 3) := by decide +kernel
theorem dX11_swaps_41 : decode cX11_swaps 41 = .ok (.bipush 10, 2) := by decide +kernel
theorem dX11_swaps_43 : decode cX11_swaps 43 = .ok (.bipush 12, 2) := by decide +kernel
theorem dX11_swaps_45 : decode cX11_swaps 45 = .ok (.iload_n 2, 1) := by decide +kernel
theorem dX11_swaps_46 : decode cX11_swaps 46 = .ok (.imul, 1) := by decide +kernel
theorem dX11_swaps_47 : decode cX11_swaps 47 = .ok (.iadd, 1) := by decide +kernel
theorem dX11_swaps_48 : decode cX11_swaps 48 = .ok (.iload_n 3, 1) := by decide +kernel
theorem dX11_swaps_49 : decode cX11_swaps 49 = .ok (.iadd, 1) := by decide +kernel
theorem dX11_swaps_50 : decode cX11_swaps 50 = .ok (.laload, 1) := by decide +kernel
theorem dX11_swaps_51 : decode cX11_swaps 51 = .ok (.lastore, 1) := by decide +kernel
theorem dX11_swaps_52 : decode cX11_swaps 52 = .ok (.aload_n 0, 1) := by decide +kernel
theorem dX11_swaps_53 : decode cX11_swaps 53 = .ok (.getfield 9, 3) := by decide +kernel
theorem dX11_swaps_56 : decode cX11_swaps 56 = .ok (.bipush 10, 2) := by decide +kernel
theorem dX11_swaps_58 : decode cX11_swaps 58 = .ok (.bipush 12, 2) := by decide +kernel
theorem dX11_swaps_60 : decode cX11_swaps 60 = .ok (.iload_n 2, 1) := by decide +kernel
theorem dX11_swaps_61 : decode cX11_swaps 61 = .ok (.imul, 1) := by decide +kernel
theorem dX11_swaps_62 : decode cX11_swaps 62 = .ok (.iadd, 1) := by decide +kernel
theorem dX11_swaps_63 : decode cX11_swaps 63 = .ok (.iload_n 3, 1) := by decide +kernel
theorem dX11_swaps_64 : decode cX11_swaps 64 = .ok (.iadd, 1) := by decide +kernel
theorem dX11_swaps_65 : decode cX11_swaps 65 = .ok (.lload 4, 2) := by decide +kernel
theorem dX11_swaps_67 : decode cX11_swaps 67 = .ok (.lastore, 1) := by decide +kernel
theorem dX11_swaps_68 : decode cX11_swaps 68 = .ok (.iinc 3 1, 3) := by decide +kernel
theorem dX11_swaps_71 : decode cX11_swaps 71 = .ok (.goto (-69), 3) := by decide +kernel
theorem dX11_swaps_74 : decode cX11_swaps 74 = .ok (.return_, 1) := by decide +kernel
set_option maxRecDepth 100000 in
theorem ggX11_moveSegment_X11_isSegment : GoodIn wsX11_moveSegment wsX11_isSegment := goodIn_r _ [6, 7, 8, 9, 5, 10, 11, 12, 13, 14, 33, 34, 35, 36, 37, 38, 39, 40, 41, 42, 43, 44, 45, 46, 47, 48, 49, 50, 51, 52, 53, 54, 55, 56, 57, 58, 59] rfl (by decide +kernel)
set_option maxRecDepth 100000 in
theorem gX11_moveSegment_X11_isSegment : GoodIn wsX11_moveSegment (wsV RX11 225 RX11 yX11_isSegment wsX11_isSegment) := goodIn_app (goodIn_of _ (by decide +kernel)) ggX11_moveSegment_X11_isSegment
set_option maxRecDepth 100000 in
theorem ggX11_moveSegment_X11_keeps : GoodIn wsX11_moveSegment wsX11_keeps := goodIn_r _ [18, 19, 20, 11, 33, 34, 35, 36, 37, 38, 39, 40, 41, 42, 43, 44, 45, 46, 47, 48, 49, 50, 51, 52, 53, 54, 55, 56, 57, 58, 59] rfl (by decide +kernel)
set_option maxRecDepth 100000 in
theorem gX11_moveSegment_X11_keeps : GoodIn wsX11_moveSegment (wsV RX11 204 RX11 yX11_keeps wsX11_keeps) := goodIn_app (goodIn_of _ (by decide +kernel)) ggX11_moveSegment_X11_keeps
set_option maxRecDepth 100000 in
theorem ggX11_moveSegment_X11_swaps : GoodIn wsX11_moveSegment wsX11_swaps := goodIn_r _ [24, 11, 33, 34, 35, 36, 37, 38, 39, 40, 41, 42, 43, 44, 45, 46, 47, 48, 49, 50, 51, 52, 53, 54, 55, 56, 57, 58, 59] rfl (by decide +kernel)
set_option maxRecDepth 100000 in
theorem gX11_moveSegment_X11_swaps : GoodIn wsX11_moveSegment (wsV RX11 247 RX11 yX11_swaps wsX11_swaps) := goodIn_app (goodIn_of _ (by decide +kernel)) ggX11_moveSegment_X11_swaps
set_option maxRecDepth 100000 in
theorem ggX11_moveSegment_X11_spoken : GoodIn wsX11_moveSegment wsX11_spoken := goodIn_r _ [28, 29, 30, 31, 5, 32, 11, 33, 34, 35, 36, 37, 38, 39, 40, 41, 42, 43, 44, 45, 46, 47, 48, 49, 50, 51, 52, 53, 54, 55, 56, 57, 58, 59] rfl (by decide +kernel)
set_option maxRecDepth 100000 in
theorem gX11_moveSegment_X11_spoken : GoodIn wsX11_moveSegment (wsV RX11 216 RX11 yX11_spoken wsX11_spoken) := goodIn_app (goodIn_of _ (by decide +kernel)) ggX11_moveSegment_X11_spoken
theorem dX11_moveSegment_0 : decode cX11_moveSegment 0 = .ok (.aload_n 0, 1) := by decide +kernel
theorem dX11_moveSegment_1 : decode cX11_moveSegment 1 = .ok (.aload_n 0, 1) := by decide +kernel
theorem dX11_moveSegment_2 : decode cX11_moveSegment 2 = .ok (.iload_n 1, 1) := by decide +kernel
theorem dX11_moveSegment_3 : decode cX11_moveSegment 3 = .ok (.invokevirtual 225, 3) := by decide +kernel
theorem dX11_moveSegment_6 : decode cX11_moveSegment 6 = .ok (.ifCond .eq 15, 3) := by decide +kernel
theorem dX11_moveSegment_9 : decode cX11_moveSegment 9 = .ok (.aload_n 0, 1) := by decide +kernel
theorem dX11_moveSegment_10 : decode cX11_moveSegment 10 = .ok (.iload_n 2, 1) := by decide +kernel
theorem dX11_moveSegment_11 : decode cX11_moveSegment 11 = .ok (.invokevirtual 225, 3) := by decide +kernel
theorem dX11_moveSegment_14 : decode cX11_moveSegment 14 = .ok (.ifCond .eq 7, 3) := by decide +kernel
theorem dX11_moveSegment_17 : decode cX11_moveSegment 17 = .ok (.iconst 0, 1) := by decide +kernel
theorem dX11_moveSegment_18 : decode cX11_moveSegment 18 = .ok (.goto 4, 3) := by decide +kernel
theorem dX11_moveSegment_21 : decode cX11_moveSegment 21 = .ok (.iconst 1, 1) := by decide +kernel
theorem dX11_moveSegment_22 : decode cX11_moveSegment 22 = .ok (.putfield 79, 3) := by decide +kernel
theorem dX11_moveSegment_25 : decode cX11_moveSegment 25 = .ok (.aload_n 0, 1) := by decide +kernel
theorem dX11_moveSegment_26 : decode cX11_moveSegment 26 = .ok (.getfield 79, 3) := by decide +kernel
theorem dX11_moveSegment_29 : decode cX11_moveSegment 29 = .ok (.ifCond .le 5, 3) := by decide +kernel
theorem dX11_moveSegment_32 : decode cX11_moveSegment 32 = .ok (.iconst 0, 1) := by decide +kernel
theorem dX11_moveSegment_33 : decode cX11_moveSegment 33 = .ok (.ireturn, 1) := by decide +kernel
theorem dX11_moveSegment_34 : decode cX11_moveSegment 34 = .ok (.aload_n 0, 1) := by decide +kernel
theorem dX11_moveSegment_35 : decode cX11_moveSegment 35 = .ok (.invokevirtual 204, 3) := by decide +kernel
theorem dX11_moveSegment_38 : decode cX11_moveSegment 38 = .ok (.iload_n 1, 1) := by decide +kernel
theorem dX11_moveSegment_39 : decode cX11_moveSegment 39 = .ok (.istore_n 3, 1) := by decide +kernel
theorem dX11_moveSegment_40 : decode cX11_moveSegment 40 = .ok (.iload_n 3, 1) := by decide +kernel
theorem dX11_moveSegment_41 : decode cX11_moveSegment 41 = .ok (.iload_n 2, 1) := by decide +kernel
theorem dX11_moveSegment_42 : decode cX11_moveSegment 42 = .ok (.if_icmp .ge 17, 3) := by decide +kernel
theorem dX11_moveSegment_45 : decode cX11_moveSegment 45 = .ok (.aload_n 0, 1) := by decide +kernel
theorem dX11_moveSegment_46 : decode cX11_moveSegment 46 = .ok (.iload_n 3, 1) := by decide +kernel
theorem dX11_moveSegment_47 : decode cX11_moveSegment 47 = .ok (.iload_n 3, 1) := by decide +kernel
theorem dX11_moveSegment_48 : decode cX11_moveSegment 48 = .ok (.iconst 1, 1) := by decide +kernel
theorem dX11_moveSegment_49 : decode cX11_moveSegment 49 = .ok (.iadd, 1) := by decide +kernel
theorem dX11_moveSegment_50 : decode cX11_moveSegment 50 = .ok (.invokevirtual 247, 3) := by decide +kernel
theorem dX11_moveSegment_53 : decode cX11_moveSegment 53 = .ok (.iinc 3 1, 3) := by decide +kernel
theorem dX11_moveSegment_56 : decode cX11_moveSegment 56 = .ok (.goto (-16), 3) := by decide +kernel
theorem dX11_moveSegment_59 : decode cX11_moveSegment 59 = .ok (.iload_n 1, 1) := by decide +kernel
theorem dX11_moveSegment_60 : decode cX11_moveSegment 60 = .ok (.istore_n 3, 1) := by decide +kernel
theorem dX11_moveSegment_61 : decode cX11_moveSegment 61 = .ok (.iload_n 3, 1) := by decide +kernel
theorem dX11_moveSegment_62 : decode cX11_moveSegment 62 = .ok (.iload_n 2, 1) := by decide +kernel
theorem dX11_moveSegment_63 : decode cX11_moveSegment 63 = .ok (.if_icmp .le 17, 3) := by decide +kernel
theorem dX11_moveSegment_66 : decode cX11_moveSegment 66 = .ok (.aload_n 0, 1) := by decide +kernel
theorem dX11_moveSegment_67 : decode cX11_moveSegment 67 = .ok (.iload_n 3, 1) := by decide +kernel
theorem dX11_moveSegment_68 : decode cX11_moveSegment 68 = .ok (.iload_n 3, 1) := by decide +kernel
theorem dX11_moveSegment_69 : decode cX11_moveSegment 69 = .ok (.iconst 1, 1) := by decide +kernel
theorem dX11_moveSegment_70 : decode cX11_moveSegment 70 = .ok (.isub, 1) := by decide +kernel
theorem dX11_moveSegment_71 : decode cX11_moveSegment 71 = .ok (.invokevirtual 247, 3) := by decide +kernel
theorem dX11_moveSegment_74 : decode cX11_moveSegment 74 = .ok (.iinc 3 (-1), 3) := by decide +kernel
theorem dX11_moveSegment_77 : decode cX11_moveSegment 77 = .ok (.goto (-16), 3) := by decide +kernel
theorem dX11_moveSegment_80 : decode cX11_moveSegment 80 = .ok (.aload_n 0, 1) := by decide +kernel
theorem dX11_moveSegment_81 : decode cX11_moveSegment 81 = .ok (.iload_n 2, 1) := by decide +kernel
theorem dX11_moveSegment_82 : decode cX11_moveSegment 82 = .ok (.invokevirtual 216, 3) := by decide +kernel
theorem dX11_moveSegment_85 : decode cX11_moveSegment 85 = .ok (.ireturn, 1) := by decide +kernel
set_option maxRecDepth 100000 in
theorem ggX11_segmentAt_X11_many : GoodIn wsX11_segmentAt wsX11_many := goodIn_r _ [6, 7, 16, 17, 18, 19, 20, 21, 22, 23, 24, 25, 26, 27, 28, 29, 30, 31, 32, 33, 34, 35, 36, 37, 38, 39, 40, 41, 42] rfl (by decide +kernel)
set_option maxRecDepth 100000 in
theorem gX11_segmentAt_X11_many : GoodIn wsX11_segmentAt (wsV RX11 207 RX11 yX11_many wsX11_many) := goodIn_app (goodIn_of _ (by decide +kernel)) ggX11_segmentAt_X11_many
set_option maxRecDepth 100000 in
theorem ggX11_segmentAt_X11_spoken : GoodIn wsX11_segmentAt wsX11_spoken := goodIn_r _ [11, 12, 13, 14, 5, 15, 7, 16, 17, 18, 19, 20, 21, 22, 23, 24, 25, 26, 27, 28, 29, 30, 31, 32, 33, 34, 35, 36, 37, 38, 39, 40, 41, 42] rfl (by decide +kernel)
set_option maxRecDepth 100000 in
theorem gX11_segmentAt_X11_spoken : GoodIn wsX11_segmentAt (wsV RX11 216 RX11 yX11_spoken wsX11_spoken) := goodIn_app (goodIn_of _ (by decide +kernel)) ggX11_segmentAt_X11_spoken
theorem dX11_segmentAt_0 : decode cX11_segmentAt 0 = .ok (.aload_n 0, 1) := by decide +kernel
theorem dX11_segmentAt_1 : decode cX11_segmentAt 1 = .ok (.iconst 0, 1) := by decide +kernel
theorem dX11_segmentAt_2 : decode cX11_segmentAt 2 = .ok (.putfield 79, 3) := by decide +kernel
theorem dX11_segmentAt_5 : decode cX11_segmentAt 5 = .ok (.iconst 0, 1) := by decide +kernel
theorem dX11_segmentAt_6 : decode cX11_segmentAt 6 = .ok (.istore_n 2, 1) := by decide +kernel
theorem dX11_segmentAt_7 : decode cX11_segmentAt 7 = .ok (.iload_n 2, 1) := by decide +kernel
theorem dX11_segmentAt_8 : decode cX11_segmentAt 8 = .ok (.aload_n 0, 1) := by decide +kernel
theorem dX11_segmentAt_9 : decode cX11_segmentAt 9 = .ok (.invokevirtual 207, 3) := by decide +kernel
theorem dX11_segmentAt_12 : decode cX11_segmentAt 12 = .ok (.if_icmp .ge 31, 3) := by decide +kernel
theorem dX11_segmentAt_15 : decode cX11_segmentAt 15 = .ok (.aload_n 0, 1) := by decide +kernel
theorem dX11_segmentAt_16 : decode cX11_segmentAt 16 = .ok (.iload_n 2, 1) := by decide +kernel
theorem dX11_segmentAt_17 : decode cX11_segmentAt 17 = .ok (.invokevirtual 216, 3) := by decide +kernel
theorem dX11_segmentAt_20 : decode cX11_segmentAt 20 = .ok (.iload_n 1, 1) := by decide +kernel
theorem dX11_segmentAt_21 : decode cX11_segmentAt 21 = .ok (.if_icmp .gt 16, 3) := by decide +kernel
theorem dX11_segmentAt_24 : decode cX11_segmentAt 24 = .ok (.iload_n 1, 1) := by decide +kernel
theorem dX11_segmentAt_25 : decode cX11_segmentAt 25 = .ok (.aload_n 0, 1) := by decide +kernel
theorem dX11_segmentAt_26 : decode cX11_segmentAt 26 = .ok (.iload_n 2, 1) := by decide +kernel
theorem dX11_segmentAt_27 : decode cX11_segmentAt 27 = .ok (.iconst 1, 1) := by decide +kernel
theorem dX11_segmentAt_28 : decode cX11_segmentAt 28 = .ok (.iadd, 1) := by decide +kernel
theorem dX11_segmentAt_29 : decode cX11_segmentAt 29 = .ok (.invokevirtual 216, 3) := by decide +kernel
theorem dX11_segmentAt_32 : decode cX11_segmentAt 32 = .ok (.if_icmp .ge 5, 3) := by decide +kernel
theorem dX11_segmentAt_35 : decode cX11_segmentAt 35 = .ok (.iload_n 2, 1) := by decide +kernel
theorem dX11_segmentAt_36 : decode cX11_segmentAt 36 = .ok (.ireturn, 1) := by decide +kernel
theorem dX11_segmentAt_37 : decode cX11_segmentAt 37 = .ok (.iinc 2 1, 3) := by decide +kernel
theorem dX11_segmentAt_40 : decode cX11_segmentAt 40 = .ok (.goto (-33), 3) := by decide +kernel
theorem dX11_segmentAt_43 : decode cX11_segmentAt 43 = .ok (.iconst (-1), 1) := by decide +kernel
theorem dX11_segmentAt_44 : decode cX11_segmentAt 44 = .ok (.ireturn, 1) := by decide +kernel
set_option maxRecDepth 100000 in
theorem ggX11_changeOf_X11_many : GoodIn wsX11_changeOf wsX11_many := goodIn_r _ [6, 1, 19, 20, 21, 22, 23, 24, 25, 26, 27, 28, 29, 30, 31, 32, 33, 34, 35, 36, 37, 38, 39, 40, 41, 42, 43, 44, 45] rfl (by decide +kernel)
set_option maxRecDepth 100000 in
theorem gX11_changeOf_X11_many : GoodIn wsX11_changeOf (wsV RX11 207 RX11 yX11_many wsX11_many) := goodIn_app (goodIn_of _ (by decide +kernel)) ggX11_changeOf_X11_many
set_option maxRecDepth 100000 in
theorem ggX11_changeOf_X11_likenessOf : GoodIn wsX11_changeOf wsX11_likenessOf := goodIn_r _ [10, 1, 11, 12, 13, 5, 14, 15, 16, 17, 18, 19, 20, 21, 22, 23, 24, 25, 26, 27, 28, 29, 30, 31, 32, 33, 34, 35, 36, 37, 38, 39, 40, 41, 42, 43, 44, 45] rfl (by decide +kernel)
set_option maxRecDepth 100000 in
theorem gX11_changeOf_X11_likenessOf : GoodIn wsX11_changeOf (wsV RX11 251 RX11 yX11_likenessOf wsX11_likenessOf) := goodIn_app (goodIn_of _ (by decide +kernel)) ggX11_changeOf_X11_likenessOf
theorem dX11_changeOf_0 : decode cX11_changeOf 0 = .ok (.aload_n 0, 1) := by decide +kernel
theorem dX11_changeOf_1 : decode cX11_changeOf 1 = .ok (.getfield 9, 3) := by decide +kernel
theorem dX11_changeOf_4 : decode cX11_changeOf 4 = .ok (.iconst 2, 1) := by decide +kernel
theorem dX11_changeOf_5 : decode cX11_changeOf 5 = .ok (.laload, 1) := by decide +kernel
theorem dX11_changeOf_6 : decode cX11_changeOf 6 = .ok (.l2i, 1) := by decide +kernel
theorem dX11_changeOf_7 : decode cX11_changeOf 7 = .ok (.istore_n 2, 1) := by decide +kernel
theorem dX11_changeOf_8 : decode cX11_changeOf 8 = .ok (.iload_n 1, 1) := by decide +kernel
theorem dX11_changeOf_9 : decode cX11_changeOf 9 = .ok (.iload_n 2, 1) := by decide +kernel
theorem dX11_changeOf_10 : decode cX11_changeOf 10 = .ok (.isub, 1) := by decide +kernel
theorem dX11_changeOf_11 : decode cX11_changeOf 11 = .ok (.iconst 1, 1) := by decide +kernel
theorem dX11_changeOf_12 : decode cX11_changeOf 12 = .ok (.iadd, 1) := by decide +kernel
theorem dX11_changeOf_13 : decode cX11_changeOf 13 = .ok (.ifCond .le 11, 3) := by decide +kernel
theorem dX11_changeOf_16 : decode cX11_changeOf 16 = .ok (.iload_n 1, 1) := by decide +kernel
theorem dX11_changeOf_17 : decode cX11_changeOf 17 = .ok (.iload_n 2, 1) := by decide +kernel
theorem dX11_changeOf_18 : decode cX11_changeOf 18 = .ok (.isub, 1) := by decide +kernel
theorem dX11_changeOf_19 : decode cX11_changeOf 19 = .ok (.iconst 1, 1) := by decide +kernel
theorem dX11_changeOf_20 : decode cX11_changeOf 20 = .ok (.iadd, 1) := by decide +kernel
theorem dX11_changeOf_21 : decode cX11_changeOf 21 = .ok (.goto 4, 3) := by decide +kernel
theorem dX11_changeOf_24 : decode cX11_changeOf 24 = .ok (.iconst 0, 1) := by decide +kernel
theorem dX11_changeOf_25 : decode cX11_changeOf 25 = .ok (.istore_n 3, 1) := by decide +kernel
theorem dX11_changeOf_26 : decode cX11_changeOf 26 = .ok (.iload_n 1, 1) := by decide +kernel
theorem dX11_changeOf_27 : decode cX11_changeOf 27 = .ok (.iload_n 2, 1) := by decide +kernel
theorem dX11_changeOf_28 : decode cX11_changeOf 28 = .ok (.iadd, 1) := by decide +kernel
theorem dX11_changeOf_29 : decode cX11_changeOf 29 = .ok (.aload_n 0, 1) := by decide +kernel
theorem dX11_changeOf_30 : decode cX11_changeOf 30 = .ok (.invokevirtual 207, 3) := by decide +kernel
theorem dX11_changeOf_33 : decode cX11_changeOf 33 = .ok (.iconst 1, 1) := by decide +kernel
theorem dX11_changeOf_34 : decode cX11_changeOf 34 = .ok (.isub, 1) := by decide +kernel
theorem dX11_changeOf_35 : decode cX11_changeOf 35 = .ok (.if_icmp .ge 9, 3) := by decide +kernel
theorem dX11_changeOf_38 : decode cX11_changeOf 38 = .ok (.iload_n 1, 1) := by decide +kernel
theorem dX11_changeOf_39 : decode cX11_changeOf 39 = .ok (.iload_n 2, 1) := by decide +kernel
theorem dX11_changeOf_40 : decode cX11_changeOf 40 = .ok (.iadd, 1) := by decide +kernel
theorem dX11_changeOf_41 : decode cX11_changeOf 41 = .ok (.goto 9, 3) := by decide +kernel
theorem dX11_changeOf_44 : decode cX11_changeOf 44 = .ok (.aload_n 0, 1) := by decide +kernel
theorem dX11_changeOf_45 : decode cX11_changeOf 45 = .ok (.invokevirtual 207, 3) := by decide +kernel
theorem dX11_changeOf_48 : decode cX11_changeOf 48 = .ok (.iconst 1, 1) := by decide +kernel
theorem dX11_changeOf_49 : decode cX11_changeOf 49 = .ok (.isub, 1) := by decide +kernel
theorem dX11_changeOf_50 : decode cX11_changeOf 50 = .ok (.istore 4, 2) := by decide +kernel
theorem dX11_changeOf_52 : decode cX11_changeOf 52 = .ok (.bipush 100, 2) := by decide +kernel
theorem dX11_changeOf_54 : decode cX11_changeOf 54 = .ok (.aload_n 0, 1) := by decide +kernel
theorem dX11_changeOf_55 : decode cX11_changeOf 55 = .ok (.iload_n 3, 1) := by decide +kernel
theorem dX11_changeOf_56 : decode cX11_changeOf 56 = .ok (.iload_n 1, 1) := by decide +kernel
theorem dX11_changeOf_57 : decode cX11_changeOf 57 = .ok (.iload_n 1, 1) := by decide +kernel
theorem dX11_changeOf_58 : decode cX11_changeOf 58 = .ok (.iconst 1, 1) := by decide +kernel
theorem dX11_changeOf_59 : decode cX11_changeOf 59 = .ok (.iadd, 1) := by decide +kernel
theorem dX11_changeOf_60 : decode cX11_changeOf 60 = .ok (.iload 4, 2) := by decide +kernel
theorem dX11_changeOf_62 : decode cX11_changeOf 62 = .ok (.invokevirtual 251, 3) := by decide +kernel
theorem dX11_changeOf_65 : decode cX11_changeOf 65 = .ok (.isub, 1) := by decide +kernel
theorem dX11_changeOf_66 : decode cX11_changeOf 66 = .ok (.ireturn, 1) := by decide +kernel
set_option maxRecDepth 100000 in
theorem ggX11_likenessOf_X11_usesIn : GoodIn wsX11_likenessOf wsX11_usesIn := goodIn_r _ [6, 7, 8, 9, 5, 10, 1, 11, 12, 13, 14, 15, 16, 17, 18, 19, 20, 21, 22, 23, 24, 25, 26, 27, 28, 29, 30, 31, 32, 33, 34, 35, 36, 37] rfl (by decide +kernel)
set_option maxRecDepth 100000 in
theorem gX11_likenessOf_X11_usesIn : GoodIn wsX11_likenessOf (wsV RX11 236 RX11 yX11_usesIn wsX11_usesIn) := goodIn_app (goodIn_of _ (by decide +kernel)) ggX11_likenessOf_X11_usesIn
theorem dX11_likenessOf_0 : decode cX11_likenessOf 0 = .ok (.iconst 0, 1) := by decide +kernel
theorem dX11_likenessOf_1 : decode cX11_likenessOf 1 = .ok (.istore 5, 2) := by decide +kernel
theorem dX11_likenessOf_3 : decode cX11_likenessOf 3 = .ok (.iconst 0, 1) := by decide +kernel
theorem dX11_likenessOf_4 : decode cX11_likenessOf 4 = .ok (.istore 6, 2) := by decide +kernel
theorem dX11_likenessOf_6 : decode cX11_likenessOf 6 = .ok (.iconst 0, 1) := by decide +kernel
theorem dX11_likenessOf_7 : decode cX11_likenessOf 7 = .ok (.istore 7, 2) := by decide +kernel
theorem dX11_likenessOf_9 : decode cX11_likenessOf 9 = .ok (.iload 7, 2) := by decide +kernel
theorem dX11_likenessOf_11 : decode cX11_likenessOf 11 = .ok (.i2l, 1) := by decide +kernel
theorem dX11_likenessOf_12 : decode cX11_likenessOf 12 = .ok (.aload_n 0, 1) := by decide +kernel
theorem dX11_likenessOf_13 : decode cX11_likenessOf 13 = .ok (.getfield 9, 3) := by decide +kernel
theorem dX11_likenessOf_16 : decode cX11_likenessOf 16 = .ok (.bipush 7, 2) := by decide +kernel
theorem dX11_likenessOf_18 : decode cX11_likenessOf 18 = .ok (.laload, 1) := by decide +kernel
theorem dX11_likenessOf_19 : decode cX11_likenessOf 19 = .ok (.lcmp, 1) := by decide +kernel
theorem dX11_likenessOf_20 : decode cX11_likenessOf 20 = .ok (.ifCond .ge 68, 3) := by decide +kernel
theorem dX11_likenessOf_23 : decode cX11_likenessOf 23 = .ok (.aload_n 0, 1) := by decide +kernel
theorem dX11_likenessOf_24 : decode cX11_likenessOf 24 = .ok (.iload 7, 2) := by decide +kernel
theorem dX11_likenessOf_26 : decode cX11_likenessOf 26 = .ok (.iload_n 1, 1) := by decide +kernel
theorem dX11_likenessOf_27 : decode cX11_likenessOf 27 = .ok (.iload_n 2, 1) := by decide +kernel
theorem dX11_likenessOf_28 : decode cX11_likenessOf 28 = .ok (.invokevirtual 236, 3) := by decide +kernel
theorem dX11_likenessOf_31 : decode cX11_likenessOf 31 = .ok (.istore 8, 2) := by decide +kernel
theorem dX11_likenessOf_33 : decode cX11_likenessOf 33 = .ok (.aload_n 0, 1) := by decide +kernel
theorem dX11_likenessOf_34 : decode cX11_likenessOf 34 = .ok (.iload 7, 2) := by decide +kernel
theorem dX11_likenessOf_36 : decode cX11_likenessOf 36 = .ok (.iload_n 3, 1) := by decide +kernel
theorem dX11_likenessOf_37 : decode cX11_likenessOf 37 = .ok (.iload 4, 2) := by decide +kernel
theorem dX11_likenessOf_39 : decode cX11_likenessOf 39 = .ok (.invokevirtual 236, 3) := by decide +kernel
theorem dX11_likenessOf_42 : decode cX11_likenessOf 42 = .ok (.istore 9, 2) := by decide +kernel
theorem dX11_likenessOf_44 : decode cX11_likenessOf 44 = .ok (.iload 5, 2) := by decide +kernel
theorem dX11_likenessOf_46 : decode cX11_likenessOf 46 = .ok (.iload 8, 2) := by decide +kernel
theorem dX11_likenessOf_48 : decode cX11_likenessOf 48 = .ok (.iload 9, 2) := by decide +kernel
theorem dX11_likenessOf_50 : decode cX11_likenessOf 50 = .ok (.if_icmp .ge 8, 3) := by decide +kernel
theorem dX11_likenessOf_53 : decode cX11_likenessOf 53 = .ok (.iload 8, 2) := by decide +kernel
theorem dX11_likenessOf_55 : decode cX11_likenessOf 55 = .ok (.goto 5, 3) := by decide +kernel
theorem dX11_likenessOf_58 : decode cX11_likenessOf 58 = .ok (.iload 9, 2) := by decide +kernel
theorem dX11_likenessOf_60 : decode cX11_likenessOf 60 = .ok (.iadd, 1) := by decide +kernel
theorem dX11_likenessOf_61 : decode cX11_likenessOf 61 = .ok (.istore 5, 2) := by decide +kernel
theorem dX11_likenessOf_63 : decode cX11_likenessOf 63 = .ok (.iload 6, 2) := by decide +kernel
theorem dX11_likenessOf_65 : decode cX11_likenessOf 65 = .ok (.iload 8, 2) := by decide +kernel
theorem dX11_likenessOf_67 : decode cX11_likenessOf 67 = .ok (.iload 9, 2) := by decide +kernel
theorem dX11_likenessOf_69 : decode cX11_likenessOf 69 = .ok (.if_icmp .ge 8, 3) := by decide +kernel
theorem dX11_likenessOf_72 : decode cX11_likenessOf 72 = .ok (.iload 9, 2) := by decide +kernel
theorem dX11_likenessOf_74 : decode cX11_likenessOf 74 = .ok (.goto 5, 3) := by decide +kernel
theorem dX11_likenessOf_77 : decode cX11_likenessOf 77 = .ok (.iload 8, 2) := by decide +kernel
theorem dX11_likenessOf_79 : decode cX11_likenessOf 79 = .ok (.iadd, 1) := by decide +kernel
theorem dX11_likenessOf_80 : decode cX11_likenessOf 80 = .ok (.istore 6, 2) := by decide +kernel
theorem dX11_likenessOf_82 : decode cX11_likenessOf 82 = .ok (.iinc 7 1, 3) := by decide +kernel
theorem dX11_likenessOf_85 : decode cX11_likenessOf 85 = .ok (.goto (-76), 3) := by decide +kernel
theorem dX11_likenessOf_88 : decode cX11_likenessOf 88 = .ok (.bipush 100, 2) := by decide +kernel
theorem dX11_likenessOf_90 : decode cX11_likenessOf 90 = .ok (.iload 5, 2) := by decide +kernel
theorem dX11_likenessOf_92 : decode cX11_likenessOf 92 = .ok (.imul, 1) := by decide +kernel
theorem dX11_likenessOf_93 : decode cX11_likenessOf 93 = .ok (.iload 6, 2) := by decide +kernel
theorem dX11_likenessOf_95 : decode cX11_likenessOf 95 = .ok (.idiv, 1) := by decide +kernel
theorem dX11_likenessOf_96 : decode cX11_likenessOf 96 = .ok (.ireturn, 1) := by decide +kernel
set_option maxRecDepth 100000 in
theorem ggX11_change_X11_isBoundary : GoodIn wsX11_change wsX11_isBoundary := goodIn_r _ [6, 7, 8, 9, 5, 10, 11, 12, 13, 14, 31, 32, 33, 34, 35, 36, 37, 38, 39, 40, 41, 42, 43, 44, 45, 46, 47, 48, 49, 50, 51, 52, 53, 54, 55, 56, 57] rfl (by decide +kernel)
set_option maxRecDepth 100000 in
theorem gX11_change_X11_isBoundary : GoodIn wsX11_change (wsV RX11 255 RX11 yX11_isBoundary wsX11_isBoundary) := goodIn_app (goodIn_of _ (by decide +kernel)) ggX11_change_X11_isBoundary
set_option maxRecDepth 100000 in
theorem ggX11_change_X11_changeOf : GoodIn wsX11_change wsX11_changeOf := goodIn_r _ [18, 11, 7, 8, 9, 5, 10, 19, 20, 21, 22, 23, 24, 25, 26, 27, 28, 29, 30, 31, 32, 33, 34, 35, 36, 37, 38, 39, 40, 41, 42, 43, 44, 45, 46, 47, 48, 49, 50, 51, 52, 53, 54, 55, 56, 57] rfl (by decide +kernel)
set_option maxRecDepth 100000 in
theorem gX11_change_X11_changeOf : GoodIn wsX11_change (wsV RX11 258 RX11 yX11_changeOf wsX11_changeOf) := goodIn_app (goodIn_of _ (by decide +kernel)) ggX11_change_X11_changeOf
theorem dX11_change_0 : decode cX11_change 0 = .ok (.aload_n 0, 1) := by decide +kernel
theorem dX11_change_1 : decode cX11_change 1 = .ok (.aload_n 0, 1) := by decide +kernel
theorem dX11_change_2 : decode cX11_change 2 = .ok (.iload_n 1, 1) := by decide +kernel
theorem dX11_change_3 : decode cX11_change 3 = .ok (.invokevirtual 255, 3) := by decide +kernel
theorem dX11_change_6 : decode cX11_change 6 = .ok (.ifCond .eq 7, 3) := by decide +kernel
theorem dX11_change_9 : decode cX11_change 9 = .ok (.iconst 0, 1) := by decide +kernel
theorem dX11_change_10 : decode cX11_change 10 = .ok (.goto 4, 3) := by decide +kernel
theorem dX11_change_13 : decode cX11_change 13 = .ok (.iconst 1, 1) := by decide +kernel
theorem dX11_change_14 : decode cX11_change 14 = .ok (.putfield 79, 3) := by decide +kernel
theorem dX11_change_17 : decode cX11_change 17 = .ok (.aload_n 0, 1) := by decide +kernel
theorem dX11_change_18 : decode cX11_change 18 = .ok (.getfield 79, 3) := by decide +kernel
theorem dX11_change_21 : decode cX11_change 21 = .ok (.ifCond .le 7, 3) := by decide +kernel
theorem dX11_change_24 : decode cX11_change 24 = .ok (.iconst 0, 1) := by decide +kernel
theorem dX11_change_25 : decode cX11_change 25 = .ok (.goto 8, 3) := by decide +kernel
theorem dX11_change_28 : decode cX11_change 28 = .ok (.aload_n 0, 1) := by decide +kernel
theorem dX11_change_29 : decode cX11_change 29 = .ok (.iload_n 1, 1) := by decide +kernel
theorem dX11_change_30 : decode cX11_change 30 = .ok (.invokevirtual 258, 3) := by decide +kernel
theorem dX11_change_33 : decode cX11_change 33 = .ok (.ireturn, 1) := by decide +kernel
set_option maxRecDepth 100000 in
theorem ggX11_isChapter_X11_spoken : GoodIn wsX11_isChapter wsX11_spoken := goodIn_r _ [8, 9, 10, 11, 7, 12, 3, 16, 17, 18, 19, 20, 21, 22, 23, 24, 25, 26, 27, 28, 29, 30, 31, 32, 33, 34, 35, 36, 37, 38, 39, 40, 41, 42] rfl (by decide +kernel)
set_option maxRecDepth 100000 in
theorem gX11_isChapter_X11_spoken : GoodIn wsX11_isChapter (wsV RX11 216 RX11 yX11_spoken wsX11_spoken) := goodIn_app (goodIn_of _ (by decide +kernel)) ggX11_isChapter_X11_spoken
set_option maxRecDepth 100000 in
theorem ggX11_isChapter_X11_isIn : GoodIn wsX11_isChapter wsX11_isIn := goodIn_r _ [15] rfl (by decide +kernel)
set_option maxRecDepth 100000 in
theorem gX11_isChapter_X11_isIn : GoodIn wsX11_isChapter (va_wsS RX11 95 yX11_isIn wsX11_isIn) := goodIn_app (goodIn_of _ (by decide +kernel)) ggX11_isChapter_X11_isIn
theorem dX11_isChapter_0 : decode cX11_isChapter 0 = .ok (.aload_n 0, 1) := by decide +kernel
theorem dX11_isChapter_1 : decode cX11_isChapter 1 = .ok (.getfield 42, 3) := by decide +kernel
theorem dX11_isChapter_4 : decode cX11_isChapter 4 = .ok (.iconst (-1), 1) := by decide +kernel
theorem dX11_isChapter_5 : decode cX11_isChapter 5 = .ok (.if_icmp .eq 19, 3) := by decide +kernel
theorem dX11_isChapter_8 : decode cX11_isChapter 8 = .ok (.iload_n 1, 1) := by decide +kernel
theorem dX11_isChapter_9 : decode cX11_isChapter 9 = .ok (.aload_n 0, 1) := by decide +kernel
theorem dX11_isChapter_10 : decode cX11_isChapter 10 = .ok (.getfield 42, 3) := by decide +kernel
theorem dX11_isChapter_13 : decode cX11_isChapter 13 = .ok (.if_icmp .gt 11, 3) := by decide +kernel
theorem dX11_isChapter_16 : decode cX11_isChapter 16 = .ok (.aload_n 0, 1) := by decide +kernel
theorem dX11_isChapter_17 : decode cX11_isChapter 17 = .ok (.getfield 42, 3) := by decide +kernel
theorem dX11_isChapter_20 : decode cX11_isChapter 20 = .ok (.iload_n 2, 1) := by decide +kernel
theorem dX11_isChapter_21 : decode cX11_isChapter 21 = .ok (.if_icmp .lt 19, 3) := by decide +kernel
theorem dX11_isChapter_24 : decode cX11_isChapter 24 = .ok (.aload_n 0, 1) := by decide +kernel
theorem dX11_isChapter_25 : decode cX11_isChapter 25 = .ok (.getfield 45, 3) := by decide +kernel
theorem dX11_isChapter_28 : decode cX11_isChapter 28 = .ok (.iconst (-1), 1) := by decide +kernel
theorem dX11_isChapter_29 : decode cX11_isChapter 29 = .ok (.if_icmp .eq 13, 3) := by decide +kernel
theorem dX11_isChapter_32 : decode cX11_isChapter 32 = .ok (.iload_n 2, 1) := by decide +kernel
theorem dX11_isChapter_33 : decode cX11_isChapter 33 = .ok (.aload_n 0, 1) := by decide +kernel
theorem dX11_isChapter_34 : decode cX11_isChapter 34 = .ok (.getfield 45, 3) := by decide +kernel
theorem dX11_isChapter_37 : decode cX11_isChapter 37 = .ok (.if_icmp .ne 5, 3) := by decide +kernel
theorem dX11_isChapter_40 : decode cX11_isChapter 40 = .ok (.iconst 0, 1) := by decide +kernel
theorem dX11_isChapter_41 : decode cX11_isChapter 41 = .ok (.ireturn, 1) := by decide +kernel
theorem dX11_isChapter_42 : decode cX11_isChapter 42 = .ok (.aload_n 0, 1) := by decide +kernel
theorem dX11_isChapter_43 : decode cX11_isChapter 43 = .ok (.iload_n 2, 1) := by decide +kernel
theorem dX11_isChapter_44 : decode cX11_isChapter 44 = .ok (.iconst 1, 1) := by decide +kernel
theorem dX11_isChapter_45 : decode cX11_isChapter 45 = .ok (.iadd, 1) := by decide +kernel
theorem dX11_isChapter_46 : decode cX11_isChapter 46 = .ok (.invokevirtual 216, 3) := by decide +kernel
theorem dX11_isChapter_49 : decode cX11_isChapter 49 = .ok (.aload_n 0, 1) := by decide +kernel
theorem dX11_isChapter_50 : decode cX11_isChapter 50 = .ok (.iload_n 1, 1) := by decide +kernel
theorem dX11_isChapter_51 : decode cX11_isChapter 51 = .ok (.invokevirtual 216, 3) := by decide +kernel
theorem dX11_isChapter_54 : decode cX11_isChapter 54 = .ok (.isub, 1) := by decide +kernel
theorem dX11_isChapter_55 : decode cX11_isChapter 55 = .ok (.i2l, 1) := by decide +kernel
theorem dX11_isChapter_56 : decode cX11_isChapter 56 = .ok (.aload_n 0, 1) := by decide +kernel
theorem dX11_isChapter_57 : decode cX11_isChapter 57 = .ok (.getfield 9, 3) := by decide +kernel
theorem dX11_isChapter_60 : decode cX11_isChapter 60 = .ok (.iconst 0, 1) := by decide +kernel
theorem dX11_isChapter_61 : decode cX11_isChapter 61 = .ok (.laload, 1) := by decide +kernel
theorem dX11_isChapter_62 : decode cX11_isChapter 62 = .ok (.aload_n 0, 1) := by decide +kernel
theorem dX11_isChapter_63 : decode cX11_isChapter 63 = .ok (.getfield 9, 3) := by decide +kernel
theorem dX11_isChapter_66 : decode cX11_isChapter 66 = .ok (.iconst 1, 1) := by decide +kernel
theorem dX11_isChapter_67 : decode cX11_isChapter 67 = .ok (.laload, 1) := by decide +kernel
theorem dX11_isChapter_68 : decode cX11_isChapter 68 = .ok (.invokestatic 95, 3) := by decide +kernel
theorem dX11_isChapter_71 : decode cX11_isChapter 71 = .ok (.ireturn, 1) := by decide +kernel
set_option maxRecDepth 100000 in
theorem ggX11_laysDivisions_X11_many : GoodIn wsX11_laysDivisions wsX11_many := goodIn_r _ [9, 10, 46, 47, 48, 49, 50, 51, 52, 53, 54, 55, 56, 57, 58, 59, 60, 61, 62, 63, 64, 65, 66, 67, 68, 69, 70, 71, 72] rfl (by decide +kernel)
set_option maxRecDepth 100000 in
theorem gX11_laysDivisions_X11_many : GoodIn wsX11_laysDivisions (wsV RX11 207 RX11 yX11_many wsX11_many) := goodIn_app (goodIn_of _ (by decide +kernel)) ggX11_laysDivisions_X11_many
set_option maxRecDepth 100000 in
theorem ggX11_laysDivisions_X11_changeOf : GoodIn wsX11_laysDivisions wsX11_changeOf := goodIn_r _ [14, 10, 5, 6, 7, 8, 9, 15, 16, 17, 18, 19, 20, 21, 22, 23, 24, 25, 26, 46, 47, 48, 49, 50, 51, 52, 53, 54, 55, 56, 57, 58, 59, 60, 61, 62, 63, 64, 65, 66, 67, 68, 69, 70, 71, 72] rfl (by decide +kernel)
set_option maxRecDepth 100000 in
theorem gX11_laysDivisions_X11_changeOf : GoodIn wsX11_laysDivisions (wsV RX11 258 RX11 yX11_changeOf wsX11_changeOf) := goodIn_app (goodIn_of _ (by decide +kernel)) ggX11_laysDivisions_X11_changeOf
set_option maxRecDepth 100000 in
theorem ggX11_laysDivisions_X11_isChapter : GoodIn wsX11_laysDivisions wsX11_isChapter := goodIn_r _ [30, 31, 32, 10, 33, 34, 35, 8, 36, 23, 24, 25, 26, 37, 38, 39, 46, 47, 48, 49, 50, 51, 52, 53, 54, 55, 56, 57, 58, 59, 60, 61, 62, 63, 64, 65, 66, 67, 68, 69, 70, 71, 72] rfl (by decide +kernel)
set_option maxRecDepth 100000 in
theorem gX11_laysDivisions_X11_isChapter : GoodIn wsX11_laysDivisions (wsV RX11 262 RX11 yX11_isChapter wsX11_isChapter) := goodIn_app (goodIn_of _ (by decide +kernel)) ggX11_laysDivisions_X11_isChapter
set_option maxRecDepth 100000 in
theorem ggX11_laysDivisions_X11_tries : GoodIn wsX11_laysDivisions wsX11_tries := goodIn_r _ [43, 4, 2, 3, 1, 10, 44, 45, 46, 47, 48, 49, 50, 51, 52, 53, 54, 55, 56, 57, 58, 59, 60, 61, 62, 63, 64, 65, 66, 67, 68, 69, 70, 71, 72] rfl (by decide +kernel)
set_option maxRecDepth 100000 in
theorem gX11_laysDivisions_X11_tries : GoodIn wsX11_laysDivisions (wsV RX11 266 RX11 yX11_tries wsX11_tries) := goodIn_app (goodIn_of _ (by decide +kernel)) ggX11_laysDivisions_X11_tries
theorem dX11_laysDivisions_0 : decode cX11_laysDivisions 0 = .ok (.aload_n 0, 1) := by decide +kernel
theorem dX11_laysDivisions_1 : decode cX11_laysDivisions 1 = .ok (.invokevirtual 207, 3) := by decide +kernel
theorem dX11_laysDivisions_4 : decode cX11_laysDivisions 4 = .ok (.istore_n 1, 1) := by decide +kernel
theorem dX11_laysDivisions_5 : decode cX11_laysDivisions 5 = .ok (.iconst 0, 1) := by decide +kernel
theorem dX11_laysDivisions_6 : decode cX11_laysDivisions 6 = .ok (.istore_n 2, 1) := by decide +kernel
theorem dX11_laysDivisions_7 : decode cX11_laysDivisions 7 = .ok (.iload_n 2, 1) := by decide +kernel
theorem dX11_laysDivisions_8 : decode cX11_laysDivisions 8 = .ok (.iload_n 1, 1) := by decide +kernel
theorem dX11_laysDivisions_9 : decode cX11_laysDivisions 9 = .ok (.iconst 1, 1) := by decide +kernel
theorem dX11_laysDivisions_10 : decode cX11_laysDivisions 10 = .ok (.isub, 1) := by decide +kernel
theorem dX11_laysDivisions_11 : decode cX11_laysDivisions 11 = .ok (.if_icmp .ge 20, 3) := by decide +kernel
theorem dX11_laysDivisions_14 : decode cX11_laysDivisions 14 = .ok (.aload_n 0, 1) := by decide +kernel
theorem dX11_laysDivisions_15 : decode cX11_laysDivisions 15 = .ok (.getfield 36, 3) := by decide +kernel
theorem dX11_laysDivisions_18 : decode cX11_laysDivisions 18 = .ok (.iload_n 2, 1) := by decide +kernel
theorem dX11_laysDivisions_19 : decode cX11_laysDivisions 19 = .ok (.aload_n 0, 1) := by decide +kernel
theorem dX11_laysDivisions_20 : decode cX11_laysDivisions 20 = .ok (.iload_n 2, 1) := by decide +kernel
theorem dX11_laysDivisions_21 : decode cX11_laysDivisions 21 = .ok (.invokevirtual 258, 3) := by decide +kernel
theorem dX11_laysDivisions_24 : decode cX11_laysDivisions 24 = .ok (.iastore, 1) := by decide +kernel
theorem dX11_laysDivisions_25 : decode cX11_laysDivisions 25 = .ok (.iinc 2 1, 3) := by decide +kernel
theorem dX11_laysDivisions_28 : decode cX11_laysDivisions 28 = .ok (.goto (-21), 3) := by decide +kernel
theorem dX11_laysDivisions_31 : decode cX11_laysDivisions 31 = .ok (.iload_n 1, 1) := by decide +kernel
theorem dX11_laysDivisions_32 : decode cX11_laysDivisions 32 = .ok (.iconst 1, 1) := by decide +kernel
theorem dX11_laysDivisions_33 : decode cX11_laysDivisions 33 = .ok (.isub, 1) := by decide +kernel
theorem dX11_laysDivisions_34 : decode cX11_laysDivisions 34 = .ok (.istore_n 2, 1) := by decide +kernel
theorem dX11_laysDivisions_35 : decode cX11_laysDivisions 35 = .ok (.iload_n 2, 1) := by decide +kernel
theorem dX11_laysDivisions_36 : decode cX11_laysDivisions 36 = .ok (.ifCond .lt 54, 3) := by decide +kernel
theorem dX11_laysDivisions_39 : decode cX11_laysDivisions 39 = .ok (.aload_n 0, 1) := by decide +kernel
theorem dX11_laysDivisions_40 : decode cX11_laysDivisions 40 = .ok (.getfield 27, 3) := by decide +kernel
theorem dX11_laysDivisions_43 : decode cX11_laysDivisions 43 = .ok (.iload_n 2, 1) := by decide +kernel
theorem dX11_laysDivisions_44 : decode cX11_laysDivisions 44 = .ok (.ldc_w 261, 3) := by decide +kernel
theorem dX11_laysDivisions_47 : decode cX11_laysDivisions 47 = .ok (.iastore, 1) := by decide +kernel
theorem dX11_laysDivisions_48 : decode cX11_laysDivisions 48 = .ok (.aload_n 0, 1) := by decide +kernel
theorem dX11_laysDivisions_49 : decode cX11_laysDivisions 49 = .ok (.getfield 39, 3) := by decide +kernel
theorem dX11_laysDivisions_52 : decode cX11_laysDivisions 52 = .ok (.iload_n 2, 1) := by decide +kernel
theorem dX11_laysDivisions_53 : decode cX11_laysDivisions 53 = .ok (.lconst 0, 1) := by decide +kernel
theorem dX11_laysDivisions_54 : decode cX11_laysDivisions 54 = .ok (.lastore, 1) := by decide +kernel
theorem dX11_laysDivisions_55 : decode cX11_laysDivisions 55 = .ok (.iload_n 2, 1) := by decide +kernel
theorem dX11_laysDivisions_56 : decode cX11_laysDivisions 56 = .ok (.istore_n 3, 1) := by decide +kernel
theorem dX11_laysDivisions_57 : decode cX11_laysDivisions 57 = .ok (.iload_n 3, 1) := by decide +kernel
theorem dX11_laysDivisions_58 : decode cX11_laysDivisions 58 = .ok (.iload_n 1, 1) := by decide +kernel
theorem dX11_laysDivisions_59 : decode cX11_laysDivisions 59 = .ok (.if_icmp .ge 25, 3) := by decide +kernel
theorem dX11_laysDivisions_62 : decode cX11_laysDivisions 62 = .ok (.aload_n 0, 1) := by decide +kernel
theorem dX11_laysDivisions_63 : decode cX11_laysDivisions 63 = .ok (.iload_n 2, 1) := by decide +kernel
theorem dX11_laysDivisions_64 : decode cX11_laysDivisions 64 = .ok (.iload_n 3, 1) := by decide +kernel
theorem dX11_laysDivisions_65 : decode cX11_laysDivisions 65 = .ok (.invokevirtual 262, 3) := by decide +kernel
theorem dX11_laysDivisions_68 : decode cX11_laysDivisions 68 = .ok (.ifCond .eq 10, 3) := by decide +kernel
theorem dX11_laysDivisions_71 : decode cX11_laysDivisions 71 = .ok (.aload_n 0, 1) := by decide +kernel
theorem dX11_laysDivisions_72 : decode cX11_laysDivisions 72 = .ok (.iload_n 2, 1) := by decide +kernel
theorem dX11_laysDivisions_73 : decode cX11_laysDivisions 73 = .ok (.iload_n 3, 1) := by decide +kernel
theorem dX11_laysDivisions_74 : decode cX11_laysDivisions 74 = .ok (.iload_n 1, 1) := by decide +kernel
theorem dX11_laysDivisions_75 : decode cX11_laysDivisions 75 = .ok (.invokevirtual 266, 3) := by decide +kernel
theorem dX11_laysDivisions_78 : decode cX11_laysDivisions 78 = .ok (.iinc 3 1, 3) := by decide +kernel
theorem dX11_laysDivisions_81 : decode cX11_laysDivisions 81 = .ok (.goto (-24), 3) := by decide +kernel
theorem dX11_laysDivisions_84 : decode cX11_laysDivisions 84 = .ok (.iinc 2 (-1), 3) := by decide +kernel
theorem dX11_laysDivisions_87 : decode cX11_laysDivisions 87 = .ok (.goto (-52), 3) := by decide +kernel
theorem dX11_laysDivisions_90 : decode cX11_laysDivisions 90 = .ok (.return_, 1) := by decide +kernel
theorem dX11_tries_0 : decode cX11_tries 0 = .ok (.iload_n 2, 1) := by decide +kernel
theorem dX11_tries_1 : decode cX11_tries 1 = .ok (.iload_n 3, 1) := by decide +kernel
theorem dX11_tries_2 : decode cX11_tries 2 = .ok (.iconst 1, 1) := by decide +kernel
theorem dX11_tries_3 : decode cX11_tries 3 = .ok (.isub, 1) := by decide +kernel
theorem dX11_tries_4 : decode cX11_tries 4 = .ok (.if_icmp .ne 7, 3) := by decide +kernel
theorem dX11_tries_7 : decode cX11_tries 7 = .ok (.iconst 1, 1) := by decide +kernel
theorem dX11_tries_8 : decode cX11_tries 8 = .ok (.goto 4, 3) := by decide +kernel
theorem dX11_tries_11 : decode cX11_tries 11 = .ok (.iconst 0, 1) := by decide +kernel
theorem dX11_tries_12 : decode cX11_tries 12 = .ok (.istore 4, 2) := by decide +kernel
theorem dX11_tries_14 : decode cX11_tries 14 = .ok (.aload_n 0, 1) := by decide +kernel
theorem dX11_tries_15 : decode cX11_tries 15 = .ok (.getfield 39, 3) := by decide +kernel
theorem dX11_tries_18 : decode cX11_tries 18 = .ok (.iload_n 1, 1) := by decide +kernel
theorem dX11_tries_19 : decode cX11_tries 19 = .ok (.dup2, 1) := by decide +kernel
theorem dX11_tries_20 : decode cX11_tries 20 = .ok (.laload, 1) := by decide +kernel
theorem dX11_tries_21 : decode cX11_tries 21 = .ok (.iload 4, 2) := by decide +kernel
theorem dX11_tries_23 : decode cX11_tries 23 = .ok (.ifCond .eq 7, 3) := by decide +kernel
theorem dX11_tries_26 : decode cX11_tries 26 = .ok (.lconst 1, 1) := by decide +kernel
theorem dX11_tries_27 : decode cX11_tries 27 = .ok (.goto 11, 3) := by decide +kernel
theorem dX11_tries_30 : decode cX11_tries 30 = .ok (.aload_n 0, 1) := by decide +kernel
theorem dX11_tries_31 : decode cX11_tries 31 = .ok (.getfield 39, 3) := by decide +kernel
theorem dX11_tries_34 : decode cX11_tries 34 = .ok (.iload_n 2, 1) := by decide +kernel
theorem dX11_tries_35 : decode cX11_tries 35 = .ok (.iconst 1, 1) := by decide +kernel
theorem dX11_tries_36 : decode cX11_tries 36 = .ok (.iadd, 1) := by decide +kernel
theorem dX11_tries_37 : decode cX11_tries 37 = .ok (.laload, 1) := by decide +kernel
theorem dX11_tries_38 : decode cX11_tries 38 = .ok (.ladd, 1) := by decide +kernel
theorem dX11_tries_39 : decode cX11_tries 39 = .ok (.lastore, 1) := by decide +kernel
theorem dX11_tries_40 : decode cX11_tries 40 = .ok (.iload 4, 2) := by decide +kernel
theorem dX11_tries_42 : decode cX11_tries 42 = .ok (.ifCond .ne 18, 3) := by decide +kernel
theorem dX11_tries_45 : decode cX11_tries 45 = .ok (.aload_n 0, 1) := by decide +kernel
theorem dX11_tries_46 : decode cX11_tries 46 = .ok (.getfield 27, 3) := by decide +kernel
theorem dX11_tries_49 : decode cX11_tries 49 = .ok (.iload_n 2, 1) := by decide +kernel
theorem dX11_tries_50 : decode cX11_tries 50 = .ok (.iconst 1, 1) := by decide +kernel
theorem dX11_tries_51 : decode cX11_tries 51 = .ok (.iadd, 1) := by decide +kernel
theorem dX11_tries_52 : decode cX11_tries 52 = .ok (.iaload, 1) := by decide +kernel
theorem dX11_tries_53 : decode cX11_tries 53 = .ok (.ldc_w 261, 3) := by decide +kernel
theorem dX11_tries_56 : decode cX11_tries 56 = .ok (.if_icmp .ne 4, 3) := by decide +kernel
theorem dX11_tries_59 : decode cX11_tries 59 = .ok (.return_, 1) := by decide +kernel
theorem dX11_tries_60 : decode cX11_tries 60 = .ok (.iload 4, 2) := by decide +kernel
theorem dX11_tries_62 : decode cX11_tries 62 = .ok (.ifCond .eq 7, 3) := by decide +kernel
theorem dX11_tries_65 : decode cX11_tries 65 = .ok (.iconst 0, 1) := by decide +kernel
theorem dX11_tries_66 : decode cX11_tries 66 = .ok (.goto 26, 3) := by decide +kernel
theorem dX11_tries_69 : decode cX11_tries 69 = .ok (.aload_n 0, 1) := by decide +kernel
theorem dX11_tries_70 : decode cX11_tries 70 = .ok (.getfield 36, 3) := by decide +kernel
theorem dX11_tries_73 : decode cX11_tries 73 = .ok (.iload_n 2, 1) := by decide +kernel
theorem dX11_tries_74 : decode cX11_tries 74 = .ok (.iaload, 1) := by decide +kernel
theorem dX11_tries_75 : decode cX11_tries 75 = .ok (.aload_n 0, 1) := by decide +kernel
theorem dX11_tries_76 : decode cX11_tries 76 = .ok (.getfield 9, 3) := by decide +kernel
theorem dX11_tries_79 : decode cX11_tries 79 = .ok (.iconst 3, 1) := by decide +kernel
theorem dX11_tries_80 : decode cX11_tries 80 = .ok (.laload, 1) := by decide +kernel
theorem dX11_tries_81 : decode cX11_tries 81 = .ok (.l2i, 1) := by decide +kernel
theorem dX11_tries_82 : decode cX11_tries 82 = .ok (.isub, 1) := by decide +kernel
theorem dX11_tries_83 : decode cX11_tries 83 = .ok (.aload_n 0, 1) := by decide +kernel
theorem dX11_tries_84 : decode cX11_tries 84 = .ok (.getfield 27, 3) := by decide +kernel
theorem dX11_tries_87 : decode cX11_tries 87 = .ok (.iload_n 2, 1) := by decide +kernel
theorem dX11_tries_88 : decode cX11_tries 88 = .ok (.iconst 1, 1) := by decide +kernel
theorem dX11_tries_89 : decode cX11_tries 89 = .ok (.iadd, 1) := by decide +kernel
theorem dX11_tries_90 : decode cX11_tries 90 = .ok (.iaload, 1) := by decide +kernel
theorem dX11_tries_91 : decode cX11_tries 91 = .ok (.iadd, 1) := by decide +kernel
theorem dX11_tries_92 : decode cX11_tries 92 = .ok (.istore 5, 2) := by decide +kernel
theorem dX11_tries_94 : decode cX11_tries 94 = .ok (.iload 4, 2) := by decide +kernel
theorem dX11_tries_96 : decode cX11_tries 96 = .ok (.ifCond .eq 7, 3) := by decide +kernel
theorem dX11_tries_99 : decode cX11_tries 99 = .ok (.iconst 0, 1) := by decide +kernel
theorem dX11_tries_100 : decode cX11_tries 100 = .ok (.goto 13, 3) := by decide +kernel
theorem dX11_tries_103 : decode cX11_tries 103 = .ok (.iconst 1, 1) := by decide +kernel
theorem dX11_tries_104 : decode cX11_tries 104 = .ok (.aload_n 0, 1) := by decide +kernel
theorem dX11_tries_105 : decode cX11_tries 105 = .ok (.getfield 30, 3) := by decide +kernel
theorem dX11_tries_108 : decode cX11_tries 108 = .ok (.iload_n 2, 1) := by decide +kernel
theorem dX11_tries_109 : decode cX11_tries 109 = .ok (.iconst 1, 1) := by decide +kernel
theorem dX11_tries_110 : decode cX11_tries 110 = .ok (.iadd, 1) := by decide +kernel
theorem dX11_tries_111 : decode cX11_tries 111 = .ok (.iaload, 1) := by decide +kernel
theorem dX11_tries_112 : decode cX11_tries 112 = .ok (.iadd, 1) := by decide +kernel
theorem dX11_tries_113 : decode cX11_tries 113 = .ok (.istore 6, 2) := by decide +kernel
theorem dX11_tries_115 : decode cX11_tries 115 = .ok (.aload_n 0, 1) := by decide +kernel
theorem dX11_tries_116 : decode cX11_tries 116 = .ok (.getfield 27, 3) := by decide +kernel
theorem dX11_tries_119 : decode cX11_tries 119 = .ok (.iload_n 1, 1) := by decide +kernel
theorem dX11_tries_120 : decode cX11_tries 120 = .ok (.iaload, 1) := by decide +kernel
theorem dX11_tries_121 : decode cX11_tries 121 = .ok (.ldc_w 261, 3) := by decide +kernel
theorem dX11_tries_124 : decode cX11_tries 124 = .ok (.if_icmp .eq 36, 3) := by decide +kernel
theorem dX11_tries_127 : decode cX11_tries 127 = .ok (.iload 5, 2) := by decide +kernel
theorem dX11_tries_129 : decode cX11_tries 129 = .ok (.aload_n 0, 1) := by decide +kernel
theorem dX11_tries_130 : decode cX11_tries 130 = .ok (.getfield 27, 3) := by decide +kernel
theorem dX11_tries_133 : decode cX11_tries 133 = .ok (.iload_n 1, 1) := by decide +kernel
theorem dX11_tries_134 : decode cX11_tries 134 = .ok (.iaload, 1) := by decide +kernel
theorem dX11_tries_135 : decode cX11_tries 135 = .ok (.if_icmp .gt 25, 3) := by decide +kernel
theorem dX11_tries_138 : decode cX11_tries 138 = .ok (.iload 5, 2) := by decide +kernel
theorem dX11_tries_140 : decode cX11_tries 140 = .ok (.aload_n 0, 1) := by decide +kernel
theorem dX11_tries_141 : decode cX11_tries 141 = .ok (.getfield 27, 3) := by decide +kernel
theorem dX11_tries_144 : decode cX11_tries 144 = .ok (.iload_n 1, 1) := by decide +kernel
theorem dX11_tries_145 : decode cX11_tries 145 = .ok (.iaload, 1) := by decide +kernel
theorem dX11_tries_146 : decode cX11_tries 146 = .ok (.if_icmp .ne 18, 3) := by decide +kernel
theorem dX11_tries_149 : decode cX11_tries 149 = .ok (.iload 6, 2) := by decide +kernel
theorem dX11_tries_151 : decode cX11_tries 151 = .ok (.aload_n 0, 1) := by decide +kernel
theorem dX11_tries_152 : decode cX11_tries 152 = .ok (.getfield 30, 3) := by decide +kernel
theorem dX11_tries_155 : decode cX11_tries 155 = .ok (.iload_n 1, 1) := by decide +kernel
theorem dX11_tries_156 : decode cX11_tries 156 = .ok (.iaload, 1) := by decide +kernel
theorem dX11_tries_157 : decode cX11_tries 157 = .ok (.if_icmp .ge 7, 3) := by decide +kernel
theorem dX11_tries_160 : decode cX11_tries 160 = .ok (.iconst 1, 1) := by decide +kernel
theorem dX11_tries_161 : decode cX11_tries 161 = .ok (.goto 4, 3) := by decide +kernel
theorem dX11_tries_164 : decode cX11_tries 164 = .ok (.iconst 0, 1) := by decide +kernel
theorem dX11_tries_165 : decode cX11_tries 165 = .ok (.istore 7, 2) := by decide +kernel
theorem dX11_tries_167 : decode cX11_tries 167 = .ok (.iload 7, 2) := by decide +kernel
theorem dX11_tries_169 : decode cX11_tries 169 = .ok (.ifCond .ne 4, 3) := by decide +kernel
theorem dX11_tries_172 : decode cX11_tries 172 = .ok (.return_, 1) := by decide +kernel
theorem dX11_tries_173 : decode cX11_tries 173 = .ok (.aload_n 0, 1) := by decide +kernel
theorem dX11_tries_174 : decode cX11_tries 174 = .ok (.getfield 27, 3) := by decide +kernel
theorem dX11_tries_177 : decode cX11_tries 177 = .ok (.iload_n 1, 1) := by decide +kernel
theorem dX11_tries_178 : decode cX11_tries 178 = .ok (.iload 5, 2) := by decide +kernel
theorem dX11_tries_180 : decode cX11_tries 180 = .ok (.iastore, 1) := by decide +kernel
theorem dX11_tries_181 : decode cX11_tries 181 = .ok (.aload_n 0, 1) := by decide +kernel
theorem dX11_tries_182 : decode cX11_tries 182 = .ok (.getfield 30, 3) := by decide +kernel
theorem dX11_tries_185 : decode cX11_tries 185 = .ok (.iload_n 1, 1) := by decide +kernel
theorem dX11_tries_186 : decode cX11_tries 186 = .ok (.iload 6, 2) := by decide +kernel
theorem dX11_tries_188 : decode cX11_tries 188 = .ok (.iastore, 1) := by decide +kernel
theorem dX11_tries_189 : decode cX11_tries 189 = .ok (.aload_n 0, 1) := by decide +kernel
theorem dX11_tries_190 : decode cX11_tries 190 = .ok (.getfield 33, 3) := by decide +kernel
theorem dX11_tries_193 : decode cX11_tries 193 = .ok (.iload_n 1, 1) := by decide +kernel
theorem dX11_tries_194 : decode cX11_tries 194 = .ok (.iload_n 2, 1) := by decide +kernel
theorem dX11_tries_195 : decode cX11_tries 195 = .ok (.iastore, 1) := by decide +kernel
theorem dX11_tries_196 : decode cX11_tries 196 = .ok (.return_, 1) := by decide +kernel
set_option maxRecDepth 100000 in
theorem ggX11_hasBest_X11_laysDivisions : GoodIn wsX11_hasBest wsX11_laysDivisions := goodIn_r _ [7, 8, 1, 2, 9, 10, 11, 12, 6, 13, 14, 15, 16, 17, 18, 19, 20, 21, 22, 23, 24, 25, 26, 27, 28, 29, 30, 31, 32, 33, 34, 35, 36, 37, 38, 39, 40, 41, 42, 43, 44, 45, 46, 47, 48, 49, 50, 51, 52, 53, 54, 55, 56, 57, 58, 59, 60, 61, 62, 63, 64, 65, 66, 67, 68, 69, 70, 71, 72, 73, 74, 75, 76] rfl (by decide +kernel)
set_option maxRecDepth 100000 in
theorem gX11_hasBest_X11_laysDivisions : GoodIn wsX11_hasBest (wsV RX11 270 RX11 yX11_laysDivisions wsX11_laysDivisions) := goodIn_app (goodIn_of _ (by decide +kernel)) ggX11_hasBest_X11_laysDivisions
set_option maxRecDepth 100000 in
theorem ggX11_hasBest_X11_many : GoodIn wsX11_hasBest wsX11_many := goodIn_r _ [13, 14, 50, 51, 52, 53, 54, 55, 56, 57, 58, 59, 60, 61, 62, 63, 64, 65, 66, 67, 68, 69, 70, 71, 72, 73, 74, 75, 76] rfl (by decide +kernel)
set_option maxRecDepth 100000 in
theorem gX11_hasBest_X11_many : GoodIn wsX11_hasBest (wsV RX11 207 RX11 yX11_many wsX11_many) := goodIn_app (goodIn_of _ (by decide +kernel)) ggX11_hasBest_X11_many
theorem dX11_hasBest_0 : decode cX11_hasBest 0 = .ok (.aload_n 0, 1) := by decide +kernel
theorem dX11_hasBest_1 : decode cX11_hasBest 1 = .ok (.invokevirtual 270, 3) := by decide +kernel
theorem dX11_hasBest_4 : decode cX11_hasBest 4 = .ok (.aload_n 0, 1) := by decide +kernel
theorem dX11_hasBest_5 : decode cX11_hasBest 5 = .ok (.invokevirtual 207, 3) := by decide +kernel
theorem dX11_hasBest_8 : decode cX11_hasBest 8 = .ok (.ifCond .le 19, 3) := by decide +kernel
theorem dX11_hasBest_11 : decode cX11_hasBest 11 = .ok (.aload_n 0, 1) := by decide +kernel
theorem dX11_hasBest_12 : decode cX11_hasBest 12 = .ok (.getfield 27, 3) := by decide +kernel
theorem dX11_hasBest_15 : decode cX11_hasBest 15 = .ok (.iconst 0, 1) := by decide +kernel
theorem dX11_hasBest_16 : decode cX11_hasBest 16 = .ok (.iaload, 1) := by decide +kernel
theorem dX11_hasBest_17 : decode cX11_hasBest 17 = .ok (.ldc_w 261, 3) := by decide +kernel
theorem dX11_hasBest_20 : decode cX11_hasBest 20 = .ok (.if_icmp .eq 7, 3) := by decide +kernel
theorem dX11_hasBest_23 : decode cX11_hasBest 23 = .ok (.iconst 1, 1) := by decide +kernel
theorem dX11_hasBest_24 : decode cX11_hasBest 24 = .ok (.goto 4, 3) := by decide +kernel
theorem dX11_hasBest_27 : decode cX11_hasBest 27 = .ok (.iconst 0, 1) := by decide +kernel
theorem dX11_hasBest_28 : decode cX11_hasBest 28 = .ok (.ireturn, 1) := by decide +kernel
set_option maxRecDepth 100000 in
theorem ggX11_chapters_X11_hasBest : GoodIn wsX11_chapters wsX11_hasBest := goodIn_r _ [7, 8, 9, 10, 11, 12, 6, 13, 14, 15, 16, 17, 18, 19, 20, 21, 22, 23, 24, 25, 26, 27, 28, 29, 30, 31, 32, 33, 34, 35, 36, 37, 38, 39, 40, 41, 42, 43, 44, 45, 46, 47, 48, 49, 50, 51, 52, 53, 2, 54, 55, 56, 57, 58, 59, 60, 61, 62, 63, 64, 65, 66, 67, 68, 69, 70, 71, 72, 73, 74, 75, 76, 77, 78, 79, 80, 81] rfl (by decide +kernel)
set_option maxRecDepth 100000 in
theorem gX11_chapters_X11_hasBest : GoodIn wsX11_chapters (wsV RX11 273 RX11 yX11_hasBest wsX11_hasBest) := goodIn_app (goodIn_of _ (by decide +kernel)) ggX11_chapters_X11_hasBest
theorem dX11_chapters_0 : decode cX11_chapters 0 = .ok (.aload_n 0, 1) := by decide +kernel
theorem dX11_chapters_1 : decode cX11_chapters 1 = .ok (.iconst 0, 1) := by decide +kernel
theorem dX11_chapters_2 : decode cX11_chapters 2 = .ok (.putfield 79, 3) := by decide +kernel
theorem dX11_chapters_5 : decode cX11_chapters 5 = .ok (.aload_n 0, 1) := by decide +kernel
theorem dX11_chapters_6 : decode cX11_chapters 6 = .ok (.invokevirtual 273, 3) := by decide +kernel
theorem dX11_chapters_9 : decode cX11_chapters 9 = .ok (.ifCond .eq 14, 3) := by decide +kernel
theorem dX11_chapters_12 : decode cX11_chapters 12 = .ok (.iconst 1, 1) := by decide +kernel
theorem dX11_chapters_13 : decode cX11_chapters 13 = .ok (.aload_n 0, 1) := by decide +kernel
theorem dX11_chapters_14 : decode cX11_chapters 14 = .ok (.getfield 30, 3) := by decide +kernel
theorem dX11_chapters_17 : decode cX11_chapters 17 = .ok (.iconst 0, 1) := by decide +kernel
theorem dX11_chapters_18 : decode cX11_chapters 18 = .ok (.iaload, 1) := by decide +kernel
theorem dX11_chapters_19 : decode cX11_chapters 19 = .ok (.iadd, 1) := by decide +kernel
theorem dX11_chapters_20 : decode cX11_chapters 20 = .ok (.goto 4, 3) := by decide +kernel
theorem dX11_chapters_23 : decode cX11_chapters 23 = .ok (.iconst (-1), 1) := by decide +kernel
theorem dX11_chapters_24 : decode cX11_chapters 24 = .ok (.ireturn, 1) := by decide +kernel
set_option maxRecDepth 100000 in
theorem ggX11_worth_X11_hasBest : GoodIn wsX11_worth wsX11_hasBest := goodIn_r _ [7, 2, 8, 9, 10, 11, 6, 12, 13, 14, 15, 16, 17, 18, 19, 20, 21, 22, 23, 24, 25, 26, 27, 28, 29, 30, 31, 32, 33, 34, 35, 36, 37, 38, 39, 40, 41, 42, 43, 44, 45, 46, 47, 48, 49, 50, 51, 52, 53, 54, 55, 56, 57, 58, 59, 60, 61, 62, 63, 64, 65, 66, 67, 68, 69, 70, 71, 72, 73, 74, 75, 76, 77, 78, 79, 80, 81] rfl (by decide +kernel)
set_option maxRecDepth 100000 in
theorem gX11_worth_X11_hasBest : GoodIn wsX11_worth (wsV RX11 273 RX11 yX11_hasBest wsX11_hasBest) := goodIn_app (goodIn_of _ (by decide +kernel)) ggX11_worth_X11_hasBest
theorem dX11_worth_0 : decode cX11_worth 0 = .ok (.aload_n 0, 1) := by decide +kernel
theorem dX11_worth_1 : decode cX11_worth 1 = .ok (.aload_n 0, 1) := by decide +kernel
theorem dX11_worth_2 : decode cX11_worth 2 = .ok (.invokevirtual 273, 3) := by decide +kernel
theorem dX11_worth_5 : decode cX11_worth 5 = .ok (.ifCond .eq 7, 3) := by decide +kernel
theorem dX11_worth_8 : decode cX11_worth 8 = .ok (.iconst 0, 1) := by decide +kernel
theorem dX11_worth_9 : decode cX11_worth 9 = .ok (.goto 4, 3) := by decide +kernel
theorem dX11_worth_12 : decode cX11_worth 12 = .ok (.iconst 1, 1) := by decide +kernel
theorem dX11_worth_13 : decode cX11_worth 13 = .ok (.putfield 79, 3) := by decide +kernel
theorem dX11_worth_16 : decode cX11_worth 16 = .ok (.aload_n 0, 1) := by decide +kernel
theorem dX11_worth_17 : decode cX11_worth 17 = .ok (.getfield 79, 3) := by decide +kernel
theorem dX11_worth_20 : decode cX11_worth 20 = .ok (.ifCond .le 7, 3) := by decide +kernel
theorem dX11_worth_23 : decode cX11_worth 23 = .ok (.iconst 0, 1) := by decide +kernel
theorem dX11_worth_24 : decode cX11_worth 24 = .ok (.goto 9, 3) := by decide +kernel
theorem dX11_worth_27 : decode cX11_worth 27 = .ok (.aload_n 0, 1) := by decide +kernel
theorem dX11_worth_28 : decode cX11_worth 28 = .ok (.getfield 27, 3) := by decide +kernel
theorem dX11_worth_31 : decode cX11_worth 31 = .ok (.iconst 0, 1) := by decide +kernel
theorem dX11_worth_32 : decode cX11_worth 32 = .ok (.iaload, 1) := by decide +kernel
theorem dX11_worth_33 : decode cX11_worth 33 = .ok (.ireturn, 1) := by decide +kernel
set_option maxRecDepth 100000 in
theorem ggX11_worthWith_X11_isBoundary : GoodIn wsX11_worthWith wsX11_isBoundary := goodIn_r _ [9, 10, 11, 12, 8, 13, 14, 15, 16, 17, 59, 60, 61, 62, 63, 64, 65, 66, 67, 68, 69, 70, 71, 72, 73, 74, 75, 76, 77, 78, 79, 80, 81, 82, 83, 84, 85] rfl (by decide +kernel)
set_option maxRecDepth 100000 in
theorem gX11_worthWith_X11_isBoundary : GoodIn wsX11_worthWith (wsV RX11 255 RX11 yX11_isBoundary wsX11_isBoundary) := goodIn_app (goodIn_of _ (by decide +kernel)) ggX11_worthWith_X11_isBoundary
set_option maxRecDepth 100000 in
theorem ggX11_worthWith_X11_hasBest : GoodIn wsX11_worthWith wsX11_hasBest := goodIn_r _ [21, 4, 22, 23, 24, 25, 8, 26, 27, 28, 10, 11, 12, 13, 14, 29, 30, 31, 32, 33, 34, 35, 36, 37, 38, 39, 40, 41, 42, 43, 44, 45, 46, 47, 48, 2, 3, 49, 50, 51, 52, 15, 16, 17, 53, 54, 55, 56, 57, 58, 59, 60, 61, 62, 63, 64, 65, 66, 67, 68, 69, 70, 71, 72, 73, 74, 75, 76, 77, 78, 79, 80, 81, 82, 83, 84, 85] rfl (by decide +kernel)
set_option maxRecDepth 100000 in
theorem gX11_worthWith_X11_hasBest : GoodIn wsX11_worthWith (wsV RX11 273 RX11 yX11_hasBest wsX11_hasBest) := goodIn_app (goodIn_of _ (by decide +kernel)) ggX11_worthWith_X11_hasBest
theorem dX11_worthWith_0 : decode cX11_worthWith 0 = .ok (.aload_n 0, 1) := by decide +kernel
theorem dX11_worthWith_1 : decode cX11_worthWith 1 = .ok (.aload_n 0, 1) := by decide +kernel
theorem dX11_worthWith_2 : decode cX11_worthWith 2 = .ok (.iload_n 1, 1) := by decide +kernel
theorem dX11_worthWith_3 : decode cX11_worthWith 3 = .ok (.invokevirtual 255, 3) := by decide +kernel
theorem dX11_worthWith_6 : decode cX11_worthWith 6 = .ok (.ifCond .eq 7, 3) := by decide +kernel
theorem dX11_worthWith_9 : decode cX11_worthWith 9 = .ok (.iconst 0, 1) := by decide +kernel
theorem dX11_worthWith_10 : decode cX11_worthWith 10 = .ok (.goto 4, 3) := by decide +kernel
theorem dX11_worthWith_13 : decode cX11_worthWith 13 = .ok (.iconst 1, 1) := by decide +kernel
theorem dX11_worthWith_14 : decode cX11_worthWith 14 = .ok (.putfield 79, 3) := by decide +kernel
theorem dX11_worthWith_17 : decode cX11_worthWith 17 = .ok (.aload_n 0, 1) := by decide +kernel
theorem dX11_worthWith_18 : decode cX11_worthWith 18 = .ok (.getfield 79, 3) := by decide +kernel
theorem dX11_worthWith_21 : decode cX11_worthWith 21 = .ok (.ifCond .le 5, 3) := by decide +kernel
theorem dX11_worthWith_24 : decode cX11_worthWith 24 = .ok (.iconst 0, 1) := by decide +kernel
theorem dX11_worthWith_25 : decode cX11_worthWith 25 = .ok (.ireturn, 1) := by decide +kernel
theorem dX11_worthWith_26 : decode cX11_worthWith 26 = .ok (.iload_n 2, 1) := by decide +kernel
theorem dX11_worthWith_27 : decode cX11_worthWith 27 = .ok (.ifCond .eq 11, 3) := by decide +kernel
theorem dX11_worthWith_30 : decode cX11_worthWith 30 = .ok (.aload_n 0, 1) := by decide +kernel
theorem dX11_worthWith_31 : decode cX11_worthWith 31 = .ok (.iload_n 1, 1) := by decide +kernel
theorem dX11_worthWith_32 : decode cX11_worthWith 32 = .ok (.putfield 42, 3) := by decide +kernel
theorem dX11_worthWith_35 : decode cX11_worthWith 35 = .ok (.goto 8, 3) := by decide +kernel
theorem dX11_worthWith_38 : decode cX11_worthWith 38 = .ok (.aload_n 0, 1) := by decide +kernel
theorem dX11_worthWith_39 : decode cX11_worthWith 39 = .ok (.iload_n 1, 1) := by decide +kernel
theorem dX11_worthWith_40 : decode cX11_worthWith 40 = .ok (.putfield 45, 3) := by decide +kernel
theorem dX11_worthWith_43 : decode cX11_worthWith 43 = .ok (.aload_n 0, 1) := by decide +kernel
theorem dX11_worthWith_44 : decode cX11_worthWith 44 = .ok (.aload_n 0, 1) := by decide +kernel
theorem dX11_worthWith_45 : decode cX11_worthWith 45 = .ok (.invokevirtual 273, 3) := by decide +kernel
theorem dX11_worthWith_48 : decode cX11_worthWith 48 = .ok (.ifCond .eq 7, 3) := by decide +kernel
theorem dX11_worthWith_51 : decode cX11_worthWith 51 = .ok (.iconst 0, 1) := by decide +kernel
theorem dX11_worthWith_52 : decode cX11_worthWith 52 = .ok (.goto 4, 3) := by decide +kernel
theorem dX11_worthWith_55 : decode cX11_worthWith 55 = .ok (.iconst 2, 1) := by decide +kernel
theorem dX11_worthWith_56 : decode cX11_worthWith 56 = .ok (.putfield 79, 3) := by decide +kernel
theorem dX11_worthWith_59 : decode cX11_worthWith 59 = .ok (.aload_n 0, 1) := by decide +kernel
theorem dX11_worthWith_60 : decode cX11_worthWith 60 = .ok (.iconst (-1), 1) := by decide +kernel
theorem dX11_worthWith_61 : decode cX11_worthWith 61 = .ok (.putfield 42, 3) := by decide +kernel
theorem dX11_worthWith_64 : decode cX11_worthWith 64 = .ok (.aload_n 0, 1) := by decide +kernel
theorem dX11_worthWith_65 : decode cX11_worthWith 65 = .ok (.iconst (-1), 1) := by decide +kernel
theorem dX11_worthWith_66 : decode cX11_worthWith 66 = .ok (.putfield 45, 3) := by decide +kernel
theorem dX11_worthWith_69 : decode cX11_worthWith 69 = .ok (.aload_n 0, 1) := by decide +kernel
theorem dX11_worthWith_70 : decode cX11_worthWith 70 = .ok (.getfield 79, 3) := by decide +kernel
theorem dX11_worthWith_73 : decode cX11_worthWith 73 = .ok (.ifCond .le 7, 3) := by decide +kernel
theorem dX11_worthWith_76 : decode cX11_worthWith 76 = .ok (.iconst 0, 1) := by decide +kernel
theorem dX11_worthWith_77 : decode cX11_worthWith 77 = .ok (.goto 9, 3) := by decide +kernel
theorem dX11_worthWith_80 : decode cX11_worthWith 80 = .ok (.aload_n 0, 1) := by decide +kernel
theorem dX11_worthWith_81 : decode cX11_worthWith 81 = .ok (.getfield 27, 3) := by decide +kernel
theorem dX11_worthWith_84 : decode cX11_worthWith 84 = .ok (.iconst 0, 1) := by decide +kernel
theorem dX11_worthWith_85 : decode cX11_worthWith 85 = .ok (.iaload, 1) := by decide +kernel
theorem dX11_worthWith_86 : decode cX11_worthWith 86 = .ok (.ireturn, 1) := by decide +kernel
set_option maxRecDepth 100000 in
theorem ggX11_priceFor_X11_isIn : GoodIn wsX11_priceFor wsX11_isIn := goodIn_r _ [8] rfl (by decide +kernel)
set_option maxRecDepth 100000 in
theorem gX11_priceFor_X11_isIn : GoodIn wsX11_priceFor (va_wsS RX11 95 yX11_isIn wsX11_isIn) := goodIn_app (goodIn_of _ (by decide +kernel)) ggX11_priceFor_X11_isIn
set_option maxRecDepth 100000 in
theorem ggX11_priceFor_X11_hasBest : GoodIn wsX11_priceFor wsX11_hasBest := goodIn_r _ [12, 13, 14, 15, 16, 17, 7, 18, 19, 20, 21, 22, 23, 24, 3, 25, 26, 27, 28, 29, 30, 31, 32, 33, 34, 35, 36, 37, 38, 39, 40, 41, 42, 43, 44, 45, 46, 47, 48, 49, 50, 5, 6, 8, 51, 52, 53, 54, 4, 55, 56, 57, 58, 59, 60, 61, 62, 63, 64, 65, 66, 67, 68, 69, 70, 71, 72, 73, 74, 75, 76, 77, 78, 79, 80, 81, 82] rfl (by decide +kernel)
set_option maxRecDepth 100000 in
theorem gX11_priceFor_X11_hasBest : GoodIn wsX11_priceFor (wsV RX11 273 RX11 yX11_hasBest wsX11_hasBest) := goodIn_app (goodIn_of _ (by decide +kernel)) ggX11_priceFor_X11_hasBest
theorem dX11_priceFor_0 : decode cX11_priceFor 0 = .ok (.aload_n 0, 1) := by decide +kernel
theorem dX11_priceFor_1 : decode cX11_priceFor 1 = .ok (.iload_n 1, 1) := by decide +kernel
theorem dX11_priceFor_2 : decode cX11_priceFor 2 = .ok (.i2l, 1) := by decide +kernel
theorem dX11_priceFor_3 : decode cX11_priceFor 3 = .ok (.lconst 1, 1) := by decide +kernel
theorem dX11_priceFor_4 : decode cX11_priceFor 4 = .ok (.ldc2_w 156, 3) := by decide +kernel
theorem dX11_priceFor_7 : decode cX11_priceFor 7 = .ok (.invokestatic 95, 3) := by decide +kernel
theorem dX11_priceFor_10 : decode cX11_priceFor 10 = .ok (.ifCond .eq 7, 3) := by decide +kernel
theorem dX11_priceFor_13 : decode cX11_priceFor 13 = .ok (.iconst 0, 1) := by decide +kernel
theorem dX11_priceFor_14 : decode cX11_priceFor 14 = .ok (.goto 4, 3) := by decide +kernel
theorem dX11_priceFor_17 : decode cX11_priceFor 17 = .ok (.iconst 1, 1) := by decide +kernel
theorem dX11_priceFor_18 : decode cX11_priceFor 18 = .ok (.putfield 79, 3) := by decide +kernel
theorem dX11_priceFor_21 : decode cX11_priceFor 21 = .ok (.aload_n 0, 1) := by decide +kernel
theorem dX11_priceFor_22 : decode cX11_priceFor 22 = .ok (.getfield 79, 3) := by decide +kernel
theorem dX11_priceFor_25 : decode cX11_priceFor 25 = .ok (.ifCond .le 5, 3) := by decide +kernel
theorem dX11_priceFor_28 : decode cX11_priceFor 28 = .ok (.iconst 0, 1) := by decide +kernel
theorem dX11_priceFor_29 : decode cX11_priceFor 29 = .ok (.ireturn, 1) := by decide +kernel
theorem dX11_priceFor_30 : decode cX11_priceFor 30 = .ok (.aload_n 0, 1) := by decide +kernel
theorem dX11_priceFor_31 : decode cX11_priceFor 31 = .ok (.getfield 9, 3) := by decide +kernel
theorem dX11_priceFor_34 : decode cX11_priceFor 34 = .ok (.iconst 3, 1) := by decide +kernel
theorem dX11_priceFor_35 : decode cX11_priceFor 35 = .ok (.laload, 1) := by decide +kernel
theorem dX11_priceFor_36 : decode cX11_priceFor 36 = .ok (.lstore_n 2, 1) := by decide +kernel
theorem dX11_priceFor_37 : decode cX11_priceFor 37 = .ok (.bipush 100, 2) := by decide +kernel
theorem dX11_priceFor_39 : decode cX11_priceFor 39 = .ok (.istore 4, 2) := by decide +kernel
theorem dX11_priceFor_41 : decode cX11_priceFor 41 = .ok (.aload_n 0, 1) := by decide +kernel
theorem dX11_priceFor_42 : decode cX11_priceFor 42 = .ok (.getfield 9, 3) := by decide +kernel
theorem dX11_priceFor_45 : decode cX11_priceFor 45 = .ok (.iconst 3, 1) := by decide +kernel
theorem dX11_priceFor_46 : decode cX11_priceFor 46 = .ok (.iload 4, 2) := by decide +kernel
theorem dX11_priceFor_48 : decode cX11_priceFor 48 = .ok (.i2l, 1) := by decide +kernel
theorem dX11_priceFor_49 : decode cX11_priceFor 49 = .ok (.lastore, 1) := by decide +kernel
theorem dX11_priceFor_50 : decode cX11_priceFor 50 = .ok (.iload 4, 2) := by decide +kernel
theorem dX11_priceFor_52 : decode cX11_priceFor 52 = .ok (.ifCond .lt 37, 3) := by decide +kernel
theorem dX11_priceFor_55 : decode cX11_priceFor 55 = .ok (.aload_n 0, 1) := by decide +kernel
theorem dX11_priceFor_56 : decode cX11_priceFor 56 = .ok (.invokevirtual 273, 3) := by decide +kernel
theorem dX11_priceFor_59 : decode cX11_priceFor 59 = .ok (.ifCond .eq 15, 3) := by decide +kernel
theorem dX11_priceFor_62 : decode cX11_priceFor 62 = .ok (.aload_n 0, 1) := by decide +kernel
theorem dX11_priceFor_63 : decode cX11_priceFor 63 = .ok (.getfield 30, 3) := by decide +kernel
theorem dX11_priceFor_66 : decode cX11_priceFor 66 = .ok (.iconst 0, 1) := by decide +kernel
theorem dX11_priceFor_67 : decode cX11_priceFor 67 = .ok (.iaload, 1) := by decide +kernel
theorem dX11_priceFor_68 : decode cX11_priceFor 68 = .ok (.iconst 1, 1) := by decide +kernel
theorem dX11_priceFor_69 : decode cX11_priceFor 69 = .ok (.iadd, 1) := by decide +kernel
theorem dX11_priceFor_70 : decode cX11_priceFor 70 = .ok (.iload_n 1, 1) := by decide +kernel
theorem dX11_priceFor_71 : decode cX11_priceFor 71 = .ok (.if_icmp .ge 18, 3) := by decide +kernel
theorem dX11_priceFor_74 : decode cX11_priceFor 74 = .ok (.iinc 4 (-1), 3) := by decide +kernel
theorem dX11_priceFor_77 : decode cX11_priceFor 77 = .ok (.aload_n 0, 1) := by decide +kernel
theorem dX11_priceFor_78 : decode cX11_priceFor 78 = .ok (.getfield 9, 3) := by decide +kernel
theorem dX11_priceFor_81 : decode cX11_priceFor 81 = .ok (.iconst 3, 1) := by decide +kernel
theorem dX11_priceFor_82 : decode cX11_priceFor 82 = .ok (.iload 4, 2) := by decide +kernel
theorem dX11_priceFor_84 : decode cX11_priceFor 84 = .ok (.i2l, 1) := by decide +kernel
theorem dX11_priceFor_85 : decode cX11_priceFor 85 = .ok (.lastore, 1) := by decide +kernel
theorem dX11_priceFor_86 : decode cX11_priceFor 86 = .ok (.goto (-36), 3) := by decide +kernel
theorem dX11_priceFor_89 : decode cX11_priceFor 89 = .ok (.aload_n 0, 1) := by decide +kernel
theorem dX11_priceFor_90 : decode cX11_priceFor 90 = .ok (.getfield 9, 3) := by decide +kernel
theorem dX11_priceFor_93 : decode cX11_priceFor 93 = .ok (.iconst 3, 1) := by decide +kernel
theorem dX11_priceFor_94 : decode cX11_priceFor 94 = .ok (.lload_n 2, 1) := by decide +kernel
theorem dX11_priceFor_95 : decode cX11_priceFor 95 = .ok (.lastore, 1) := by decide +kernel
theorem dX11_priceFor_96 : decode cX11_priceFor 96 = .ok (.aload_n 0, 1) := by decide +kernel
theorem dX11_priceFor_97 : decode cX11_priceFor 97 = .ok (.iload 4, 2) := by decide +kernel
theorem dX11_priceFor_99 : decode cX11_priceFor 99 = .ok (.ifCond .ge 7, 3) := by decide +kernel
theorem dX11_priceFor_102 : decode cX11_priceFor 102 = .ok (.iconst 2, 1) := by decide +kernel
theorem dX11_priceFor_103 : decode cX11_priceFor 103 = .ok (.goto 4, 3) := by decide +kernel
theorem dX11_priceFor_106 : decode cX11_priceFor 106 = .ok (.iconst 0, 1) := by decide +kernel
theorem dX11_priceFor_107 : decode cX11_priceFor 107 = .ok (.putfield 79, 3) := by decide +kernel
theorem dX11_priceFor_110 : decode cX11_priceFor 110 = .ok (.aload_n 0, 1) := by decide +kernel
theorem dX11_priceFor_111 : decode cX11_priceFor 111 = .ok (.getfield 79, 3) := by decide +kernel
theorem dX11_priceFor_114 : decode cX11_priceFor 114 = .ok (.ifCond .le 7, 3) := by decide +kernel
theorem dX11_priceFor_117 : decode cX11_priceFor 117 = .ok (.iconst 0, 1) := by decide +kernel
theorem dX11_priceFor_118 : decode cX11_priceFor 118 = .ok (.goto 5, 3) := by decide +kernel
theorem dX11_priceFor_121 : decode cX11_priceFor 121 = .ok (.iload 4, 2) := by decide +kernel
theorem dX11_priceFor_123 : decode cX11_priceFor 123 = .ok (.ireturn, 1) := by decide +kernel
theorem dX11_beginOf_0 : decode cX11_beginOf 0 = .ok (.iconst 0, 1) := by decide +kernel
theorem dX11_beginOf_1 : decode cX11_beginOf 1 = .ok (.istore_n 2, 1) := by decide +kernel
theorem dX11_beginOf_2 : decode cX11_beginOf 2 = .ok (.iconst 0, 1) := by decide +kernel
theorem dX11_beginOf_3 : decode cX11_beginOf 3 = .ok (.istore_n 3, 1) := by decide +kernel
theorem dX11_beginOf_4 : decode cX11_beginOf 4 = .ok (.iload_n 3, 1) := by decide +kernel
theorem dX11_beginOf_5 : decode cX11_beginOf 5 = .ok (.iload_n 1, 1) := by decide +kernel
theorem dX11_beginOf_6 : decode cX11_beginOf 6 = .ok (.if_icmp .ge 18, 3) := by decide +kernel
theorem dX11_beginOf_9 : decode cX11_beginOf 9 = .ok (.aload_n 0, 1) := by decide +kernel
theorem dX11_beginOf_10 : decode cX11_beginOf 10 = .ok (.getfield 33, 3) := by decide +kernel
theorem dX11_beginOf_13 : decode cX11_beginOf 13 = .ok (.iload_n 2, 1) := by decide +kernel
theorem dX11_beginOf_14 : decode cX11_beginOf 14 = .ok (.iaload, 1) := by decide +kernel
theorem dX11_beginOf_15 : decode cX11_beginOf 15 = .ok (.iconst 1, 1) := by decide +kernel
theorem dX11_beginOf_16 : decode cX11_beginOf 16 = .ok (.iadd, 1) := by decide +kernel
theorem dX11_beginOf_17 : decode cX11_beginOf 17 = .ok (.istore_n 2, 1) := by decide +kernel
theorem dX11_beginOf_18 : decode cX11_beginOf 18 = .ok (.iinc 3 1, 3) := by decide +kernel
theorem dX11_beginOf_21 : decode cX11_beginOf 21 = .ok (.goto (-17), 3) := by decide +kernel
theorem dX11_beginOf_24 : decode cX11_beginOf 24 = .ok (.iload_n 2, 1) := by decide +kernel
theorem dX11_beginOf_25 : decode cX11_beginOf 25 = .ok (.ireturn, 1) := by decide +kernel
set_option maxRecDepth 100000 in
theorem ggX11_noChapter_X11_hasBest : GoodIn wsX11_noChapter wsX11_hasBest := goodIn_r _ [6, 7, 8, 9, 10, 11, 5, 12, 13, 14, 15, 16, 17, 18, 19, 20, 21, 22, 23, 24, 25, 26, 27, 28, 29, 30, 31, 32, 33, 34, 35, 36, 37, 38, 39, 40, 41, 42, 43, 44, 45, 46, 47, 48, 49, 50, 51, 52, 1, 53, 54, 55, 56, 57, 58, 59, 60, 61, 62, 63, 64, 65, 66, 67, 68, 69, 70, 71, 72, 73, 74, 75, 76, 77, 78, 79, 80] rfl (by decide +kernel)
set_option maxRecDepth 100000 in
theorem gX11_noChapter_X11_hasBest : GoodIn wsX11_noChapter (wsV RX11 273 RX11 yX11_hasBest wsX11_hasBest) := goodIn_app (goodIn_of _ (by decide +kernel)) ggX11_noChapter_X11_hasBest
set_option maxRecDepth 100000 in
theorem ggX11_noChapter_X11_isIn : GoodIn wsX11_noChapter wsX11_isIn := goodIn_r _ [48] rfl (by decide +kernel)
set_option maxRecDepth 100000 in
theorem gX11_noChapter_X11_isIn : GoodIn wsX11_noChapter (va_wsS RX11 95 yX11_isIn wsX11_isIn) := goodIn_app (goodIn_of _ (by decide +kernel)) ggX11_noChapter_X11_isIn
theorem dX11_noChapter_0 : decode cX11_noChapter 0 = .ok (.aload_n 0, 1) := by decide +kernel
theorem dX11_noChapter_1 : decode cX11_noChapter 1 = .ok (.invokevirtual 273, 3) := by decide +kernel
theorem dX11_noChapter_4 : decode cX11_noChapter 4 = .ok (.ifCond .ne 7, 3) := by decide +kernel
theorem dX11_noChapter_7 : decode cX11_noChapter 7 = .ok (.iconst 1, 1) := by decide +kernel
theorem dX11_noChapter_8 : decode cX11_noChapter 8 = .ok (.goto 24, 3) := by decide +kernel
theorem dX11_noChapter_11 : decode cX11_noChapter 11 = .ok (.iload_n 1, 1) := by decide +kernel
theorem dX11_noChapter_12 : decode cX11_noChapter 12 = .ok (.i2l, 1) := by decide +kernel
theorem dX11_noChapter_13 : decode cX11_noChapter 13 = .ok (.lconst 0, 1) := by decide +kernel
theorem dX11_noChapter_14 : decode cX11_noChapter 14 = .ok (.aload_n 0, 1) := by decide +kernel
theorem dX11_noChapter_15 : decode cX11_noChapter 15 = .ok (.getfield 30, 3) := by decide +kernel
theorem dX11_noChapter_18 : decode cX11_noChapter 18 = .ok (.iconst 0, 1) := by decide +kernel
theorem dX11_noChapter_19 : decode cX11_noChapter 19 = .ok (.iaload, 1) := by decide +kernel
theorem dX11_noChapter_20 : decode cX11_noChapter 20 = .ok (.i2l, 1) := by decide +kernel
theorem dX11_noChapter_21 : decode cX11_noChapter 21 = .ok (.invokestatic 95, 3) := by decide +kernel
theorem dX11_noChapter_24 : decode cX11_noChapter 24 = .ok (.ifCond .eq 7, 3) := by decide +kernel
theorem dX11_noChapter_27 : decode cX11_noChapter 27 = .ok (.iconst 0, 1) := by decide +kernel
theorem dX11_noChapter_28 : decode cX11_noChapter 28 = .ok (.goto 4, 3) := by decide +kernel
theorem dX11_noChapter_31 : decode cX11_noChapter 31 = .ok (.iconst 2, 1) := by decide +kernel
theorem dX11_noChapter_32 : decode cX11_noChapter 32 = .ok (.ireturn, 1) := by decide +kernel
set_option maxRecDepth 100000 in
theorem ggX11_different_X11_usesIn : GoodIn wsX11_different wsX11_usesIn := goodIn_r _ [6, 7, 8, 9, 5, 10, 1, 11, 12, 13, 14, 15, 16, 17, 18, 19, 20, 21, 22, 23, 24, 25, 26, 27, 28, 29, 30, 31, 32, 33, 34, 35, 36, 37] rfl (by decide +kernel)
set_option maxRecDepth 100000 in
theorem gX11_different_X11_usesIn : GoodIn wsX11_different (wsV RX11 236 RX11 yX11_usesIn wsX11_usesIn) := goodIn_app (goodIn_of _ (by decide +kernel)) ggX11_different_X11_usesIn
theorem dX11_different_0 : decode cX11_different 0 = .ok (.iconst 0, 1) := by decide +kernel
theorem dX11_different_1 : decode cX11_different 1 = .ok (.istore_n 3, 1) := by decide +kernel
theorem dX11_different_2 : decode cX11_different 2 = .ok (.iconst 0, 1) := by decide +kernel
theorem dX11_different_3 : decode cX11_different 3 = .ok (.istore 4, 2) := by decide +kernel
theorem dX11_different_5 : decode cX11_different 5 = .ok (.iload 4, 2) := by decide +kernel
theorem dX11_different_7 : decode cX11_different 7 = .ok (.i2l, 1) := by decide +kernel
theorem dX11_different_8 : decode cX11_different 8 = .ok (.aload_n 0, 1) := by decide +kernel
theorem dX11_different_9 : decode cX11_different 9 = .ok (.getfield 9, 3) := by decide +kernel
theorem dX11_different_12 : decode cX11_different 12 = .ok (.bipush 7, 2) := by decide +kernel
theorem dX11_different_14 : decode cX11_different 14 = .ok (.laload, 1) := by decide +kernel
theorem dX11_different_15 : decode cX11_different 15 = .ok (.lcmp, 1) := by decide +kernel
theorem dX11_different_16 : decode cX11_different 16 = .ok (.ifCond .ge 28, 3) := by decide +kernel
theorem dX11_different_19 : decode cX11_different 19 = .ok (.iload_n 3, 1) := by decide +kernel
theorem dX11_different_20 : decode cX11_different 20 = .ok (.aload_n 0, 1) := by decide +kernel
theorem dX11_different_21 : decode cX11_different 21 = .ok (.iload 4, 2) := by decide +kernel
theorem dX11_different_23 : decode cX11_different 23 = .ok (.iload_n 1, 1) := by decide +kernel
theorem dX11_different_24 : decode cX11_different 24 = .ok (.iload_n 2, 1) := by decide +kernel
theorem dX11_different_25 : decode cX11_different 25 = .ok (.invokevirtual 236, 3) := by decide +kernel
theorem dX11_different_28 : decode cX11_different 28 = .ok (.ifCond .le 7, 3) := by decide +kernel
theorem dX11_different_31 : decode cX11_different 31 = .ok (.iconst 1, 1) := by decide +kernel
theorem dX11_different_32 : decode cX11_different 32 = .ok (.goto 4, 3) := by decide +kernel
theorem dX11_different_35 : decode cX11_different 35 = .ok (.iconst 0, 1) := by decide +kernel
theorem dX11_different_36 : decode cX11_different 36 = .ok (.iadd, 1) := by decide +kernel
theorem dX11_different_37 : decode cX11_different 37 = .ok (.istore_n 3, 1) := by decide +kernel
theorem dX11_different_38 : decode cX11_different 38 = .ok (.iinc 4 1, 3) := by decide +kernel
theorem dX11_different_41 : decode cX11_different 41 = .ok (.goto (-36), 3) := by decide +kernel
theorem dX11_different_44 : decode cX11_different 44 = .ok (.iload_n 3, 1) := by decide +kernel
theorem dX11_different_45 : decode cX11_different 45 = .ok (.ireturn, 1) := by decide +kernel
set_option maxRecDepth 100000 in
theorem ggX11_chapter_X11_noChapter : GoodIn wsX11_chapter wsX11_noChapter := goodIn_r _ [8, 9, 10, 11, 12, 7, 13, 14, 15, 16, 17, 18, 19, 20, 21, 22, 23, 24, 25, 26, 27, 28, 29, 30, 31, 32, 33, 34, 35, 36, 37, 38, 39, 40, 41, 42, 43, 44, 45, 46, 47, 48, 49, 50, 51, 52, 53, 54, 55, 56, 57, 58, 59, 3, 108, 109, 110, 111, 112, 113, 114, 115, 116, 117, 118, 119, 120, 121, 122, 123, 124, 125, 126, 127, 128, 129, 130, 131, 132, 133, 134] rfl (by decide +kernel)
set_option maxRecDepth 100000 in
theorem gX11_chapter_X11_noChapter : GoodIn wsX11_chapter (wsV RX11 277 RX11 yX11_noChapter wsX11_noChapter) := goodIn_app (goodIn_of _ (by decide +kernel)) ggX11_chapter_X11_noChapter
set_option maxRecDepth 100000 in
theorem ggX11_chapter_X11_isIn : GoodIn wsX11_chapter wsX11_isIn := goodIn_r _ [55] rfl (by decide +kernel)
set_option maxRecDepth 100000 in
theorem gX11_chapter_X11_isIn : GoodIn wsX11_chapter (va_wsS RX11 95 yX11_isIn wsX11_isIn) := goodIn_app (goodIn_of _ (by decide +kernel)) ggX11_chapter_X11_isIn
set_option maxRecDepth 100000 in
theorem ggX11_chapter_X11_beginOf : GoodIn wsX11_chapter wsX11_beginOf := goodIn_r _ [63, 3, 108, 109, 110, 111, 112, 113, 114, 115, 116, 117, 118, 119, 120, 121, 122, 123, 124, 125, 126, 127, 128, 129, 130, 131, 132, 133, 134] rfl (by decide +kernel)
set_option maxRecDepth 100000 in
theorem gX11_chapter_X11_beginOf : GoodIn wsX11_chapter (wsV RX11 280 RX11 yX11_beginOf wsX11_beginOf) := goodIn_app (goodIn_of _ (by decide +kernel)) ggX11_chapter_X11_beginOf
set_option maxRecDepth 100000 in
theorem ggX11_chapter_X11_spoken : GoodIn wsX11_chapter wsX11_spoken := goodIn_r _ [52, 39, 40, 41, 7, 42, 26, 108, 109, 110, 111, 112, 113, 114, 115, 116, 117, 118, 119, 120, 121, 122, 123, 124, 125, 126, 127, 128, 129, 130, 131, 132, 133, 134] rfl (by decide +kernel)
set_option maxRecDepth 100000 in
theorem gX11_chapter_X11_spoken : GoodIn wsX11_chapter (wsV RX11 216 RX11 yX11_spoken wsX11_spoken) := goodIn_app (goodIn_of _ (by decide +kernel)) ggX11_chapter_X11_spoken
set_option maxRecDepth 100000 in
theorem ggX11_chapter_X11_different : GoodIn wsX11_chapter wsX11_different := goodIn_r _ [67, 26, 35, 36, 37, 7, 38, 39, 40, 41, 42, 108, 109, 110, 111, 112, 113, 114, 115, 116, 117, 118, 119, 120, 121, 122, 123, 124, 125, 126, 127, 128, 129, 130, 131, 132, 133, 134] rfl (by decide +kernel)
set_option maxRecDepth 100000 in
theorem gX11_chapter_X11_different : GoodIn wsX11_chapter (wsV RX11 283 RX11 yX11_different wsX11_different) := goodIn_app (goodIn_of _ (by decide +kernel)) ggX11_chapter_X11_different
set_option maxRecDepth 100000 in
theorem ggX11_chapter_X11_realTime : GoodIn wsX11_chapter wsX11_realTime := goodIn_r _ [71, 26, 72, 49, 50, 51, 7, 52, 39, 40, 41, 42, 73, 74, 75, 76, 77, 78, 79, 80, 81, 82, 9, 3, 10, 11, 12, 13, 14, 15, 16, 17, 18, 19, 20, 21, 22, 23, 24, 25, 27, 28, 29, 30, 31, 32, 33, 34, 35, 36, 37, 38, 43, 44, 45, 46, 47, 48, 53, 54, 55, 56, 57, 58, 59, 60, 61, 62, 63, 83, 84, 85, 86, 87, 88, 89, 90, 91, 92, 93, 94, 95, 96, 97, 98, 99, 100, 101, 102, 103, 104, 105, 106, 107, 108, 109, 110, 111, 112, 113, 114, 115, 116, 117, 118, 119, 120, 121, 122, 123, 124, 125, 126, 127, 128, 129, 130, 131, 132, 133, 134] rfl (by decide +kernel)
set_option maxRecDepth 100000 in
theorem gX11_chapter_X11_realTime : GoodIn wsX11_chapter (wsV RX11 230 RX11 yX11_realTime wsX11_realTime) := goodIn_app (goodIn_of _ (by decide +kernel)) ggX11_chapter_X11_realTime
theorem dX11_chapter_0 : decode cX11_chapter 0 = .ok (.aload_n 0, 1) := by decide +kernel
theorem dX11_chapter_1 : decode cX11_chapter 1 = .ok (.aload_n 0, 1) := by decide +kernel
theorem dX11_chapter_2 : decode cX11_chapter 2 = .ok (.iload_n 1, 1) := by decide +kernel
theorem dX11_chapter_3 : decode cX11_chapter 3 = .ok (.invokevirtual 277, 3) := by decide +kernel
theorem dX11_chapter_6 : decode cX11_chapter 6 = .ok (.putfield 79, 3) := by decide +kernel
theorem dX11_chapter_9 : decode cX11_chapter 9 = .ok (.aload_n 0, 1) := by decide +kernel
theorem dX11_chapter_10 : decode cX11_chapter 10 = .ok (.getfield 79, 3) := by decide +kernel
theorem dX11_chapter_13 : decode cX11_chapter 13 = .ok (.ifCond .ne 20, 3) := by decide +kernel
theorem dX11_chapter_16 : decode cX11_chapter 16 = .ok (.iload_n 2, 1) := by decide +kernel
theorem dX11_chapter_17 : decode cX11_chapter 17 = .ok (.i2l, 1) := by decide +kernel
theorem dX11_chapter_18 : decode cX11_chapter 18 = .ok (.lconst 0, 1) := by decide +kernel
theorem dX11_chapter_19 : decode cX11_chapter 19 = .ok (.ldc2_w 228, 3) := by decide +kernel
theorem dX11_chapter_22 : decode cX11_chapter 22 = .ok (.invokestatic 95, 3) := by decide +kernel
theorem dX11_chapter_25 : decode cX11_chapter 25 = .ok (.ifCond .ne 8, 3) := by decide +kernel
theorem dX11_chapter_28 : decode cX11_chapter 28 = .ok (.aload_n 0, 1) := by decide +kernel
theorem dX11_chapter_29 : decode cX11_chapter 29 = .ok (.iconst 3, 1) := by decide +kernel
theorem dX11_chapter_30 : decode cX11_chapter 30 = .ok (.putfield 79, 3) := by decide +kernel
theorem dX11_chapter_33 : decode cX11_chapter 33 = .ok (.aload_n 0, 1) := by decide +kernel
theorem dX11_chapter_34 : decode cX11_chapter 34 = .ok (.getfield 79, 3) := by decide +kernel
theorem dX11_chapter_37 : decode cX11_chapter 37 = .ok (.ifCond .le 5, 3) := by decide +kernel
theorem dX11_chapter_40 : decode cX11_chapter 40 = .ok (.iconst 0, 1) := by decide +kernel
theorem dX11_chapter_41 : decode cX11_chapter 41 = .ok (.ireturn, 1) := by decide +kernel
theorem dX11_chapter_42 : decode cX11_chapter 42 = .ok (.aload_n 0, 1) := by decide +kernel
theorem dX11_chapter_43 : decode cX11_chapter 43 = .ok (.iload_n 1, 1) := by decide +kernel
theorem dX11_chapter_44 : decode cX11_chapter 44 = .ok (.invokevirtual 280, 3) := by decide +kernel
theorem dX11_chapter_47 : decode cX11_chapter 47 = .ok (.istore_n 3, 1) := by decide +kernel
theorem dX11_chapter_48 : decode cX11_chapter 48 = .ok (.aload_n 0, 1) := by decide +kernel
theorem dX11_chapter_49 : decode cX11_chapter 49 = .ok (.getfield 33, 3) := by decide +kernel
theorem dX11_chapter_52 : decode cX11_chapter 52 = .ok (.iload_n 3, 1) := by decide +kernel
theorem dX11_chapter_53 : decode cX11_chapter 53 = .ok (.iaload, 1) := by decide +kernel
theorem dX11_chapter_54 : decode cX11_chapter 54 = .ok (.istore 4, 2) := by decide +kernel
theorem dX11_chapter_56 : decode cX11_chapter 56 = .ok (.iload_n 2, 1) := by decide +kernel
theorem dX11_chapter_57 : decode cX11_chapter 57 = .ok (.tableswitch 59 0 3 #[31, 33, 36, 51], 31) := by decide +kernel
theorem dX11_chapter_88 : decode cX11_chapter 88 = .ok (.iload_n 3, 1) := by decide +kernel
theorem dX11_chapter_89 : decode cX11_chapter 89 = .ok (.ireturn, 1) := by decide +kernel
theorem dX11_chapter_90 : decode cX11_chapter 90 = .ok (.iload 4, 2) := by decide +kernel
theorem dX11_chapter_92 : decode cX11_chapter 92 = .ok (.ireturn, 1) := by decide +kernel
theorem dX11_chapter_93 : decode cX11_chapter 93 = .ok (.aload_n 0, 1) := by decide +kernel
theorem dX11_chapter_94 : decode cX11_chapter 94 = .ok (.iload 4, 2) := by decide +kernel
theorem dX11_chapter_96 : decode cX11_chapter 96 = .ok (.iconst 1, 1) := by decide +kernel
theorem dX11_chapter_97 : decode cX11_chapter 97 = .ok (.iadd, 1) := by decide +kernel
theorem dX11_chapter_98 : decode cX11_chapter 98 = .ok (.invokevirtual 216, 3) := by decide +kernel
theorem dX11_chapter_101 : decode cX11_chapter 101 = .ok (.aload_n 0, 1) := by decide +kernel
theorem dX11_chapter_102 : decode cX11_chapter 102 = .ok (.iload_n 3, 1) := by decide +kernel
theorem dX11_chapter_103 : decode cX11_chapter 103 = .ok (.invokevirtual 216, 3) := by decide +kernel
theorem dX11_chapter_106 : decode cX11_chapter 106 = .ok (.isub, 1) := by decide +kernel
theorem dX11_chapter_107 : decode cX11_chapter 107 = .ok (.ireturn, 1) := by decide +kernel
theorem dX11_chapter_108 : decode cX11_chapter 108 = .ok (.aload_n 0, 1) := by decide +kernel
theorem dX11_chapter_109 : decode cX11_chapter 109 = .ok (.iload_n 3, 1) := by decide +kernel
theorem dX11_chapter_110 : decode cX11_chapter 110 = .ok (.iload 4, 2) := by decide +kernel
theorem dX11_chapter_112 : decode cX11_chapter 112 = .ok (.invokevirtual 283, 3) := by decide +kernel
theorem dX11_chapter_115 : decode cX11_chapter 115 = .ok (.ireturn, 1) := by decide +kernel
theorem dX11_chapter_116 : decode cX11_chapter 116 = .ok (.aload_n 0, 1) := by decide +kernel
theorem dX11_chapter_117 : decode cX11_chapter 117 = .ok (.iload_n 3, 1) := by decide +kernel
theorem dX11_chapter_118 : decode cX11_chapter 118 = .ok (.invokevirtual 230, 3) := by decide +kernel
theorem dX11_chapter_121 : decode cX11_chapter 121 = .ok (.ireturn, 1) := by decide +kernel
theorem dX11_chapterAt_0 : decode cX11_chapterAt 0 = .ok (.iconst 0, 1) := by decide +kernel
theorem dX11_chapterAt_1 : decode cX11_chapterAt 1 = .ok (.istore_n 2, 1) := by decide +kernel
theorem dX11_chapterAt_2 : decode cX11_chapterAt 2 = .ok (.iconst 0, 1) := by decide +kernel
theorem dX11_chapterAt_3 : decode cX11_chapterAt 3 = .ok (.istore_n 3, 1) := by decide +kernel
theorem dX11_chapterAt_4 : decode cX11_chapterAt 4 = .ok (.aload_n 0, 1) := by decide +kernel
theorem dX11_chapterAt_5 : decode cX11_chapterAt 5 = .ok (.getfield 33, 3) := by decide +kernel
theorem dX11_chapterAt_8 : decode cX11_chapterAt 8 = .ok (.iload_n 3, 1) := by decide +kernel
theorem dX11_chapterAt_9 : decode cX11_chapterAt 9 = .ok (.iaload, 1) := by decide +kernel
theorem dX11_chapterAt_10 : decode cX11_chapterAt 10 = .ok (.iload_n 1, 1) := by decide +kernel
theorem dX11_chapterAt_11 : decode cX11_chapterAt 11 = .ok (.if_icmp .ge 18, 3) := by decide +kernel
theorem dX11_chapterAt_14 : decode cX11_chapterAt 14 = .ok (.aload_n 0, 1) := by decide +kernel
theorem dX11_chapterAt_15 : decode cX11_chapterAt 15 = .ok (.getfield 33, 3) := by decide +kernel
theorem dX11_chapterAt_18 : decode cX11_chapterAt 18 = .ok (.iload_n 3, 1) := by decide +kernel
theorem dX11_chapterAt_19 : decode cX11_chapterAt 19 = .ok (.iaload, 1) := by decide +kernel
theorem dX11_chapterAt_20 : decode cX11_chapterAt 20 = .ok (.iconst 1, 1) := by decide +kernel
theorem dX11_chapterAt_21 : decode cX11_chapterAt 21 = .ok (.iadd, 1) := by decide +kernel
theorem dX11_chapterAt_22 : decode cX11_chapterAt 22 = .ok (.istore_n 3, 1) := by decide +kernel
theorem dX11_chapterAt_23 : decode cX11_chapterAt 23 = .ok (.iinc 2 1, 3) := by decide +kernel
theorem dX11_chapterAt_26 : decode cX11_chapterAt 26 = .ok (.goto (-22), 3) := by decide +kernel
theorem dX11_chapterAt_29 : decode cX11_chapterAt 29 = .ok (.iload_n 2, 1) := by decide +kernel
theorem dX11_chapterAt_30 : decode cX11_chapterAt 30 = .ok (.ireturn, 1) := by decide +kernel
set_option maxRecDepth 100000 in
theorem ggX11_chapterOf_X11_isSegment : GoodIn wsX11_chapterOf wsX11_isSegment := goodIn_r _ [6, 7, 8, 9, 5, 10, 11, 12, 13, 14, 63, 64, 65, 66, 67, 68, 69, 70, 71, 72, 73, 74, 75, 76, 77, 78, 79, 80, 81, 82, 83, 84, 85, 86, 87, 88, 89] rfl (by decide +kernel)
set_option maxRecDepth 100000 in
theorem gX11_chapterOf_X11_isSegment : GoodIn wsX11_chapterOf (wsV RX11 225 RX11 yX11_isSegment wsX11_isSegment) := goodIn_app (goodIn_of _ (by decide +kernel)) ggX11_chapterOf_X11_isSegment
set_option maxRecDepth 100000 in
theorem ggX11_chapterOf_X11_hasBest : GoodIn wsX11_chapterOf wsX11_hasBest := goodIn_r _ [18, 19, 20, 21, 22, 23, 5, 24, 25, 26, 7, 8, 9, 10, 11, 27, 28, 29, 30, 31, 32, 33, 34, 35, 36, 37, 38, 39, 40, 41, 42, 43, 44, 45, 46, 47, 48, 49, 50, 51, 52, 12, 13, 14, 53, 54, 55, 56, 57, 58, 63, 64, 65, 66, 67, 68, 69, 70, 71, 72, 73, 74, 75, 76, 77, 78, 79, 80, 81, 82, 83, 84, 85, 86, 87, 88, 89] rfl (by decide +kernel)
set_option maxRecDepth 100000 in
theorem gX11_chapterOf_X11_hasBest : GoodIn wsX11_chapterOf (wsV RX11 273 RX11 yX11_hasBest wsX11_hasBest) := goodIn_app (goodIn_of _ (by decide +kernel)) ggX11_chapterOf_X11_hasBest
set_option maxRecDepth 100000 in
theorem ggX11_chapterOf_X11_chapterAt : GoodIn wsX11_chapterOf wsX11_chapterAt := goodIn_r _ [62, 58, 63, 64, 65, 66, 67, 68, 69, 70, 71, 72, 73, 74, 75, 76, 77, 78, 79, 80, 81, 82, 83, 84, 85, 86, 87, 88, 89] rfl (by decide +kernel)
set_option maxRecDepth 100000 in
theorem gX11_chapterOf_X11_chapterAt : GoodIn wsX11_chapterOf (wsV RX11 286 RX11 yX11_chapterAt wsX11_chapterAt) := goodIn_app (goodIn_of _ (by decide +kernel)) ggX11_chapterOf_X11_chapterAt
theorem dX11_chapterOf_0 : decode cX11_chapterOf 0 = .ok (.aload_n 0, 1) := by decide +kernel
theorem dX11_chapterOf_1 : decode cX11_chapterOf 1 = .ok (.aload_n 0, 1) := by decide +kernel
theorem dX11_chapterOf_2 : decode cX11_chapterOf 2 = .ok (.iload_n 1, 1) := by decide +kernel
theorem dX11_chapterOf_3 : decode cX11_chapterOf 3 = .ok (.invokevirtual 225, 3) := by decide +kernel
theorem dX11_chapterOf_6 : decode cX11_chapterOf 6 = .ok (.ifCond .eq 7, 3) := by decide +kernel
theorem dX11_chapterOf_9 : decode cX11_chapterOf 9 = .ok (.iconst 0, 1) := by decide +kernel
theorem dX11_chapterOf_10 : decode cX11_chapterOf 10 = .ok (.goto 4, 3) := by decide +kernel
theorem dX11_chapterOf_13 : decode cX11_chapterOf 13 = .ok (.iconst 1, 1) := by decide +kernel
theorem dX11_chapterOf_14 : decode cX11_chapterOf 14 = .ok (.putfield 79, 3) := by decide +kernel
theorem dX11_chapterOf_17 : decode cX11_chapterOf 17 = .ok (.aload_n 0, 1) := by decide +kernel
theorem dX11_chapterOf_18 : decode cX11_chapterOf 18 = .ok (.getfield 79, 3) := by decide +kernel
theorem dX11_chapterOf_21 : decode cX11_chapterOf 21 = .ok (.ifCond .le 5, 3) := by decide +kernel
theorem dX11_chapterOf_24 : decode cX11_chapterOf 24 = .ok (.iconst 0, 1) := by decide +kernel
theorem dX11_chapterOf_25 : decode cX11_chapterOf 25 = .ok (.ireturn, 1) := by decide +kernel
theorem dX11_chapterOf_26 : decode cX11_chapterOf 26 = .ok (.aload_n 0, 1) := by decide +kernel
theorem dX11_chapterOf_27 : decode cX11_chapterOf 27 = .ok (.invokevirtual 273, 3) := by decide +kernel
theorem dX11_chapterOf_30 : decode cX11_chapterOf 30 = .ok (.ifCond .eq 11, 3) := by decide +kernel
theorem dX11_chapterOf_33 : decode cX11_chapterOf 33 = .ok (.aload_n 0, 1) := by decide +kernel
theorem dX11_chapterOf_34 : decode cX11_chapterOf 34 = .ok (.iload_n 1, 1) := by decide +kernel
theorem dX11_chapterOf_35 : decode cX11_chapterOf 35 = .ok (.invokevirtual 286, 3) := by decide +kernel
theorem dX11_chapterOf_38 : decode cX11_chapterOf 38 = .ok (.goto 4, 3) := by decide +kernel
theorem dX11_chapterOf_41 : decode cX11_chapterOf 41 = .ok (.iconst (-1), 1) := by decide +kernel
theorem dX11_chapterOf_42 : decode cX11_chapterOf 42 = .ok (.ireturn, 1) := by decide +kernel
set_option maxRecDepth 100000 in
theorem ggX11_areCuts_X11_many : GoodIn wsX11_areCuts wsX11_many := goodIn_r _ [5, 6, 10, 11, 12, 13, 14, 15, 16, 17, 18, 19, 20, 21, 22, 23, 24, 25, 26, 27, 28, 29, 30, 31, 32, 33, 34, 35, 36] rfl (by decide +kernel)
set_option maxRecDepth 100000 in
theorem gX11_areCuts_X11_many : GoodIn wsX11_areCuts (wsV RX11 207 RX11 yX11_many wsX11_many) := goodIn_app (goodIn_of _ (by decide +kernel)) ggX11_areCuts_X11_many
set_option maxRecDepth 100000 in
theorem ggX11_areCuts_X11_isIn : GoodIn wsX11_areCuts wsX11_isIn := goodIn_r _ [9] rfl (by decide +kernel)
set_option maxRecDepth 100000 in
theorem gX11_areCuts_X11_isIn : GoodIn wsX11_areCuts (va_wsS RX11 95 yX11_isIn wsX11_isIn) := goodIn_app (goodIn_of _ (by decide +kernel)) ggX11_areCuts_X11_isIn
theorem dX11_areCuts_0 : decode cX11_areCuts 0 = .ok (.iload_n 1, 1) := by decide +kernel
theorem dX11_areCuts_1 : decode cX11_areCuts 1 = .ok (.i2l, 1) := by decide +kernel
theorem dX11_areCuts_2 : decode cX11_areCuts 2 = .ok (.lconst 0, 1) := by decide +kernel
theorem dX11_areCuts_3 : decode cX11_areCuts 3 = .ok (.aload_n 0, 1) := by decide +kernel
theorem dX11_areCuts_4 : decode cX11_areCuts 4 = .ok (.invokevirtual 207, 3) := by decide +kernel
theorem dX11_areCuts_7 : decode cX11_areCuts 7 = .ok (.iconst 2, 1) := by decide +kernel
theorem dX11_areCuts_8 : decode cX11_areCuts 8 = .ok (.if_icmp .ge 7, 3) := by decide +kernel
theorem dX11_areCuts_11 : decode cX11_areCuts 11 = .ok (.lconst 0, 1) := by decide +kernel
theorem dX11_areCuts_12 : decode cX11_areCuts 12 = .ok (.goto 13, 3) := by decide +kernel
theorem dX11_areCuts_15 : decode cX11_areCuts 15 = .ok (.lconst 1, 1) := by decide +kernel
theorem dX11_areCuts_16 : decode cX11_areCuts 16 = .ok (.aload_n 0, 1) := by decide +kernel
theorem dX11_areCuts_17 : decode cX11_areCuts 17 = .ok (.invokevirtual 207, 3) := by decide +kernel
theorem dX11_areCuts_20 : decode cX11_areCuts 20 = .ok (.iconst 1, 1) := by decide +kernel
theorem dX11_areCuts_21 : decode cX11_areCuts 21 = .ok (.isub, 1) := by decide +kernel
theorem dX11_areCuts_22 : decode cX11_areCuts 22 = .ok (.lshl, 1) := by decide +kernel
theorem dX11_areCuts_23 : decode cX11_areCuts 23 = .ok (.lconst 1, 1) := by decide +kernel
theorem dX11_areCuts_24 : decode cX11_areCuts 24 = .ok (.lsub, 1) := by decide +kernel
theorem dX11_areCuts_25 : decode cX11_areCuts 25 = .ok (.invokestatic 95, 3) := by decide +kernel
theorem dX11_areCuts_28 : decode cX11_areCuts 28 = .ok (.ireturn, 1) := by decide +kernel
theorem dX11_has_0 : decode cX11_has 0 = .ok (.iload_n 0, 1) := by decide +kernel
theorem dX11_has_1 : decode cX11_has 1 = .ok (.iload_n 1, 1) := by decide +kernel
theorem dX11_has_2 : decode cX11_has 2 = .ok (.ishr, 1) := by decide +kernel
theorem dX11_has_3 : decode cX11_has 3 = .ok (.iconst 1, 1) := by decide +kernel
theorem dX11_has_4 : decode cX11_has 4 = .ok (.iand, 1) := by decide +kernel
theorem dX11_has_5 : decode cX11_has 5 = .ok (.iconst 1, 1) := by decide +kernel
theorem dX11_has_6 : decode cX11_has 6 = .ok (.if_icmp .ne 7, 3) := by decide +kernel
theorem dX11_has_9 : decode cX11_has 9 = .ok (.iconst 1, 1) := by decide +kernel
theorem dX11_has_10 : decode cX11_has 10 = .ok (.goto 4, 3) := by decide +kernel
theorem dX11_has_13 : decode cX11_has 13 = .ok (.iconst 0, 1) := by decide +kernel
theorem dX11_has_14 : decode cX11_has 14 = .ok (.ireturn, 1) := by decide +kernel
set_option maxRecDepth 100000 in
theorem ggX11_worthOf_X11_areCuts : GoodIn wsX11_worthOf wsX11_areCuts := goodIn_r _ [7, 8, 9, 10, 6, 11, 2, 12, 13, 14, 34, 35, 36, 37, 38, 39, 40, 41, 42, 43, 44, 45, 46, 47, 48, 49, 50, 51, 52, 53, 54, 55, 56, 57, 58, 59, 60] rfl (by decide +kernel)
set_option maxRecDepth 100000 in
theorem gX11_worthOf_X11_areCuts : GoodIn wsX11_worthOf (wsV RX11 289 RX11 yX11_areCuts wsX11_areCuts) := goodIn_app (goodIn_of _ (by decide +kernel)) ggX11_worthOf_X11_areCuts
set_option maxRecDepth 100000 in
theorem ggX11_worthOf_X11_many : GoodIn wsX11_worthOf wsX11_many := goodIn_r _ [11, 2, 34, 35, 36, 37, 38, 39, 40, 41, 42, 43, 44, 45, 46, 47, 48, 49, 50, 51, 52, 53, 54, 55, 56, 57, 58, 59, 60] rfl (by decide +kernel)
set_option maxRecDepth 100000 in
theorem gX11_worthOf_X11_many : GoodIn wsX11_worthOf (wsV RX11 207 RX11 yX11_many wsX11_many) := goodIn_app (goodIn_of _ (by decide +kernel)) ggX11_worthOf_X11_many
set_option maxRecDepth 100000 in
theorem ggX11_worthOf_X11_has : GoodIn wsX11_worthOf wsX11_has := goodIn_r _ [17] rfl (by decide +kernel)
set_option maxRecDepth 100000 in
theorem gX11_worthOf_X11_has : GoodIn wsX11_worthOf (va_wsS RX11 292 yX11_has wsX11_has) := goodIn_app (goodIn_of _ (by decide +kernel)) ggX11_worthOf_X11_has
set_option maxRecDepth 100000 in
theorem ggX11_worthOf_X11_changeOf : GoodIn wsX11_worthOf wsX11_changeOf := goodIn_r _ [21, 2, 8, 9, 10, 6, 11, 22, 23, 24, 25, 26, 27, 28, 29, 30, 31, 32, 33, 34, 35, 36, 37, 38, 39, 40, 41, 42, 43, 44, 45, 46, 47, 48, 49, 50, 51, 52, 53, 54, 55, 56, 57, 58, 59, 60] rfl (by decide +kernel)
set_option maxRecDepth 100000 in
theorem gX11_worthOf_X11_changeOf : GoodIn wsX11_worthOf (wsV RX11 258 RX11 yX11_changeOf wsX11_changeOf) := goodIn_app (goodIn_of _ (by decide +kernel)) ggX11_worthOf_X11_changeOf
theorem dX11_worthOf_0 : decode cX11_worthOf 0 = .ok (.aload_n 0, 1) := by decide +kernel
theorem dX11_worthOf_1 : decode cX11_worthOf 1 = .ok (.aload_n 0, 1) := by decide +kernel
theorem dX11_worthOf_2 : decode cX11_worthOf 2 = .ok (.iload_n 1, 1) := by decide +kernel
theorem dX11_worthOf_3 : decode cX11_worthOf 3 = .ok (.invokevirtual 289, 3) := by decide +kernel
theorem dX11_worthOf_6 : decode cX11_worthOf 6 = .ok (.ifCond .eq 7, 3) := by decide +kernel
theorem dX11_worthOf_9 : decode cX11_worthOf 9 = .ok (.iconst 0, 1) := by decide +kernel
theorem dX11_worthOf_10 : decode cX11_worthOf 10 = .ok (.goto 4, 3) := by decide +kernel
theorem dX11_worthOf_13 : decode cX11_worthOf 13 = .ok (.iconst 1, 1) := by decide +kernel
theorem dX11_worthOf_14 : decode cX11_worthOf 14 = .ok (.putfield 79, 3) := by decide +kernel
theorem dX11_worthOf_17 : decode cX11_worthOf 17 = .ok (.aload_n 0, 1) := by decide +kernel
theorem dX11_worthOf_18 : decode cX11_worthOf 18 = .ok (.getfield 79, 3) := by decide +kernel
theorem dX11_worthOf_21 : decode cX11_worthOf 21 = .ok (.ifCond .le 5, 3) := by decide +kernel
theorem dX11_worthOf_24 : decode cX11_worthOf 24 = .ok (.iconst 0, 1) := by decide +kernel
theorem dX11_worthOf_25 : decode cX11_worthOf 25 = .ok (.ireturn, 1) := by decide +kernel
theorem dX11_worthOf_26 : decode cX11_worthOf 26 = .ok (.iconst 0, 1) := by decide +kernel
theorem dX11_worthOf_27 : decode cX11_worthOf 27 = .ok (.istore_n 2, 1) := by decide +kernel
theorem dX11_worthOf_28 : decode cX11_worthOf 28 = .ok (.iconst 0, 1) := by decide +kernel
theorem dX11_worthOf_29 : decode cX11_worthOf 29 = .ok (.istore_n 3, 1) := by decide +kernel
theorem dX11_worthOf_30 : decode cX11_worthOf 30 = .ok (.iload_n 3, 1) := by decide +kernel
theorem dX11_worthOf_31 : decode cX11_worthOf 31 = .ok (.aload_n 0, 1) := by decide +kernel
theorem dX11_worthOf_32 : decode cX11_worthOf 32 = .ok (.invokevirtual 207, 3) := by decide +kernel
theorem dX11_worthOf_35 : decode cX11_worthOf 35 = .ok (.iconst 1, 1) := by decide +kernel
theorem dX11_worthOf_36 : decode cX11_worthOf 36 = .ok (.isub, 1) := by decide +kernel
theorem dX11_worthOf_37 : decode cX11_worthOf 37 = .ok (.if_icmp .ge 37, 3) := by decide +kernel
theorem dX11_worthOf_40 : decode cX11_worthOf 40 = .ok (.iload_n 2, 1) := by decide +kernel
theorem dX11_worthOf_41 : decode cX11_worthOf 41 = .ok (.iload_n 1, 1) := by decide +kernel
theorem dX11_worthOf_42 : decode cX11_worthOf 42 = .ok (.iload_n 3, 1) := by decide +kernel
theorem dX11_worthOf_43 : decode cX11_worthOf 43 = .ok (.invokestatic 292, 3) := by decide +kernel
theorem dX11_worthOf_46 : decode cX11_worthOf 46 = .ok (.ifCond .eq 19, 3) := by decide +kernel
theorem dX11_worthOf_49 : decode cX11_worthOf 49 = .ok (.aload_n 0, 1) := by decide +kernel
theorem dX11_worthOf_50 : decode cX11_worthOf 50 = .ok (.iload_n 3, 1) := by decide +kernel
theorem dX11_worthOf_51 : decode cX11_worthOf 51 = .ok (.invokevirtual 258, 3) := by decide +kernel
theorem dX11_worthOf_54 : decode cX11_worthOf 54 = .ok (.aload_n 0, 1) := by decide +kernel
theorem dX11_worthOf_55 : decode cX11_worthOf 55 = .ok (.getfield 9, 3) := by decide +kernel
theorem dX11_worthOf_58 : decode cX11_worthOf 58 = .ok (.iconst 3, 1) := by decide +kernel
theorem dX11_worthOf_59 : decode cX11_worthOf 59 = .ok (.laload, 1) := by decide +kernel
theorem dX11_worthOf_60 : decode cX11_worthOf 60 = .ok (.l2i, 1) := by decide +kernel
theorem dX11_worthOf_61 : decode cX11_worthOf 61 = .ok (.isub, 1) := by decide +kernel
theorem dX11_worthOf_62 : decode cX11_worthOf 62 = .ok (.goto 4, 3) := by decide +kernel
theorem dX11_worthOf_65 : decode cX11_worthOf 65 = .ok (.iconst 0, 1) := by decide +kernel
theorem dX11_worthOf_66 : decode cX11_worthOf 66 = .ok (.iadd, 1) := by decide +kernel
theorem dX11_worthOf_67 : decode cX11_worthOf 67 = .ok (.istore_n 2, 1) := by decide +kernel
theorem dX11_worthOf_68 : decode cX11_worthOf 68 = .ok (.iinc 3 1, 3) := by decide +kernel
theorem dX11_worthOf_71 : decode cX11_worthOf 71 = .ok (.goto (-41), 3) := by decide +kernel
theorem dX11_worthOf_74 : decode cX11_worthOf 74 = .ok (.iload_n 2, 1) := by decide +kernel
theorem dX11_worthOf_75 : decode cX11_worthOf 75 = .ok (.ireturn, 1) := by decide +kernel
set_option maxRecDepth 100000 in
theorem ggX11_isAllowed_X11_areCuts : GoodIn wsX11_isAllowed wsX11_areCuts := goodIn_r _ [6, 7, 8, 9, 5, 10, 11, 12, 13, 14, 32, 33, 34, 35, 36, 37, 38, 39, 40, 41, 42, 43, 44, 45, 46, 47, 48, 49, 50, 51, 52, 53, 54, 55, 56, 57, 58] rfl (by decide +kernel)
set_option maxRecDepth 100000 in
theorem gX11_isAllowed_X11_areCuts : GoodIn wsX11_isAllowed (wsV RX11 289 RX11 yX11_areCuts wsX11_areCuts) := goodIn_app (goodIn_of _ (by decide +kernel)) ggX11_isAllowed_X11_areCuts
set_option maxRecDepth 100000 in
theorem ggX11_isAllowed_X11_many : GoodIn wsX11_isAllowed wsX11_many := goodIn_r _ [10, 11, 32, 33, 34, 35, 36, 37, 38, 39, 40, 41, 42, 43, 44, 45, 46, 47, 48, 49, 50, 51, 52, 53, 54, 55, 56, 57, 58] rfl (by decide +kernel)
set_option maxRecDepth 100000 in
theorem gX11_isAllowed_X11_many : GoodIn wsX11_isAllowed (wsV RX11 207 RX11 yX11_many wsX11_many) := goodIn_app (goodIn_of _ (by decide +kernel)) ggX11_isAllowed_X11_many
set_option maxRecDepth 100000 in
theorem ggX11_isAllowed_X11_has : GoodIn wsX11_isAllowed wsX11_has := goodIn_r _ [17] rfl (by decide +kernel)
set_option maxRecDepth 100000 in
theorem gX11_isAllowed_X11_has : GoodIn wsX11_isAllowed (va_wsS RX11 292 yX11_has wsX11_has) := goodIn_app (goodIn_of _ (by decide +kernel)) ggX11_isAllowed_X11_has
set_option maxRecDepth 100000 in
theorem ggX11_isAllowed_X11_isChapter : GoodIn wsX11_isAllowed wsX11_isChapter := goodIn_r _ [21, 22, 23, 11, 24, 25, 26, 5, 27, 28, 29, 30, 31, 12, 13, 14, 32, 33, 34, 35, 36, 37, 38, 39, 40, 41, 42, 43, 44, 45, 46, 47, 48, 49, 50, 51, 52, 53, 54, 55, 56, 57, 58] rfl (by decide +kernel)
set_option maxRecDepth 100000 in
theorem gX11_isAllowed_X11_isChapter : GoodIn wsX11_isAllowed (wsV RX11 262 RX11 yX11_isChapter wsX11_isChapter) := goodIn_app (goodIn_of _ (by decide +kernel)) ggX11_isAllowed_X11_isChapter
theorem dX11_isAllowed_0 : decode cX11_isAllowed 0 = .ok (.aload_n 0, 1) := by decide +kernel
theorem dX11_isAllowed_1 : decode cX11_isAllowed 1 = .ok (.aload_n 0, 1) := by decide +kernel
theorem dX11_isAllowed_2 : decode cX11_isAllowed 2 = .ok (.iload_n 1, 1) := by decide +kernel
theorem dX11_isAllowed_3 : decode cX11_isAllowed 3 = .ok (.invokevirtual 289, 3) := by decide +kernel
theorem dX11_isAllowed_6 : decode cX11_isAllowed 6 = .ok (.ifCond .eq 7, 3) := by decide +kernel
theorem dX11_isAllowed_9 : decode cX11_isAllowed 9 = .ok (.iconst 0, 1) := by decide +kernel
theorem dX11_isAllowed_10 : decode cX11_isAllowed 10 = .ok (.goto 4, 3) := by decide +kernel
theorem dX11_isAllowed_13 : decode cX11_isAllowed 13 = .ok (.iconst 1, 1) := by decide +kernel
theorem dX11_isAllowed_14 : decode cX11_isAllowed 14 = .ok (.putfield 79, 3) := by decide +kernel
theorem dX11_isAllowed_17 : decode cX11_isAllowed 17 = .ok (.aload_n 0, 1) := by decide +kernel
theorem dX11_isAllowed_18 : decode cX11_isAllowed 18 = .ok (.getfield 79, 3) := by decide +kernel
theorem dX11_isAllowed_21 : decode cX11_isAllowed 21 = .ok (.ifCond .gt 10, 3) := by decide +kernel
theorem dX11_isAllowed_24 : decode cX11_isAllowed 24 = .ok (.aload_n 0, 1) := by decide +kernel
theorem dX11_isAllowed_25 : decode cX11_isAllowed 25 = .ok (.invokevirtual 207, 3) := by decide +kernel
theorem dX11_isAllowed_28 : decode cX11_isAllowed 28 = .ok (.ifCond .ne 5, 3) := by decide +kernel
theorem dX11_isAllowed_31 : decode cX11_isAllowed 31 = .ok (.iconst 0, 1) := by decide +kernel
theorem dX11_isAllowed_32 : decode cX11_isAllowed 32 = .ok (.ireturn, 1) := by decide +kernel
theorem dX11_isAllowed_33 : decode cX11_isAllowed 33 = .ok (.iconst 0, 1) := by decide +kernel
theorem dX11_isAllowed_34 : decode cX11_isAllowed 34 = .ok (.istore_n 2, 1) := by decide +kernel
theorem dX11_isAllowed_35 : decode cX11_isAllowed 35 = .ok (.iconst 0, 1) := by decide +kernel
theorem dX11_isAllowed_36 : decode cX11_isAllowed 36 = .ok (.istore_n 3, 1) := by decide +kernel
theorem dX11_isAllowed_37 : decode cX11_isAllowed 37 = .ok (.iload_n 3, 1) := by decide +kernel
theorem dX11_isAllowed_38 : decode cX11_isAllowed 38 = .ok (.aload_n 0, 1) := by decide +kernel
theorem dX11_isAllowed_39 : decode cX11_isAllowed 39 = .ok (.invokevirtual 207, 3) := by decide +kernel
theorem dX11_isAllowed_42 : decode cX11_isAllowed 42 = .ok (.if_icmp .ge 45, 3) := by decide +kernel
theorem dX11_isAllowed_45 : decode cX11_isAllowed 45 = .ok (.iload_n 3, 1) := by decide +kernel
theorem dX11_isAllowed_46 : decode cX11_isAllowed 46 = .ok (.aload_n 0, 1) := by decide +kernel
theorem dX11_isAllowed_47 : decode cX11_isAllowed 47 = .ok (.invokevirtual 207, 3) := by decide +kernel
theorem dX11_isAllowed_50 : decode cX11_isAllowed 50 = .ok (.iconst 1, 1) := by decide +kernel
theorem dX11_isAllowed_51 : decode cX11_isAllowed 51 = .ok (.isub, 1) := by decide +kernel
theorem dX11_isAllowed_52 : decode cX11_isAllowed 52 = .ok (.if_icmp .ge 14, 3) := by decide +kernel
theorem dX11_isAllowed_55 : decode cX11_isAllowed 55 = .ok (.iload_n 1, 1) := by decide +kernel
theorem dX11_isAllowed_56 : decode cX11_isAllowed 56 = .ok (.iload_n 3, 1) := by decide +kernel
theorem dX11_isAllowed_57 : decode cX11_isAllowed 57 = .ok (.invokestatic 292, 3) := by decide +kernel
theorem dX11_isAllowed_60 : decode cX11_isAllowed 60 = .ok (.ifCond .ne 6, 3) := by decide +kernel
theorem dX11_isAllowed_63 : decode cX11_isAllowed 63 = .ok (.goto 18, 3) := by decide +kernel
theorem dX11_isAllowed_66 : decode cX11_isAllowed 66 = .ok (.aload_n 0, 1) := by decide +kernel
theorem dX11_isAllowed_67 : decode cX11_isAllowed 67 = .ok (.iload_n 2, 1) := by decide +kernel
theorem dX11_isAllowed_68 : decode cX11_isAllowed 68 = .ok (.iload_n 3, 1) := by decide +kernel
theorem dX11_isAllowed_69 : decode cX11_isAllowed 69 = .ok (.invokevirtual 262, 3) := by decide +kernel
theorem dX11_isAllowed_72 : decode cX11_isAllowed 72 = .ok (.ifCond .ne 5, 3) := by decide +kernel
theorem dX11_isAllowed_75 : decode cX11_isAllowed 75 = .ok (.iconst 0, 1) := by decide +kernel
theorem dX11_isAllowed_76 : decode cX11_isAllowed 76 = .ok (.ireturn, 1) := by decide +kernel
theorem dX11_isAllowed_77 : decode cX11_isAllowed 77 = .ok (.iload_n 3, 1) := by decide +kernel
theorem dX11_isAllowed_78 : decode cX11_isAllowed 78 = .ok (.iconst 1, 1) := by decide +kernel
theorem dX11_isAllowed_79 : decode cX11_isAllowed 79 = .ok (.iadd, 1) := by decide +kernel
theorem dX11_isAllowed_80 : decode cX11_isAllowed 80 = .ok (.istore_n 2, 1) := by decide +kernel
theorem dX11_isAllowed_81 : decode cX11_isAllowed 81 = .ok (.iinc 3 1, 3) := by decide +kernel
theorem dX11_isAllowed_84 : decode cX11_isAllowed 84 = .ok (.goto (-47), 3) := by decide +kernel
theorem dX11_isAllowed_87 : decode cX11_isAllowed 87 = .ok (.iconst 1, 1) := by decide +kernel
theorem dX11_isAllowed_88 : decode cX11_isAllowed 88 = .ok (.ireturn, 1) := by decide +kernel
set_option maxRecDepth 100000 in
theorem ggX11_divisions_X11_laysDivisions : GoodIn wsX11_divisions wsX11_laysDivisions := goodIn_r _ [7, 8, 9, 10, 2, 11, 12, 13, 6, 14, 15, 16, 17, 18, 19, 20, 21, 22, 23, 24, 25, 26, 27, 28, 29, 30, 31, 32, 33, 34, 35, 36, 37, 38, 39, 40, 41, 42, 43, 44, 45, 46, 47, 48, 49, 50, 51, 52, 53, 54, 55, 56, 57, 58, 59, 60, 61, 62, 63, 64, 65, 66, 67, 68, 69, 70, 71, 72, 73, 74, 75, 76, 77] rfl (by decide +kernel)
set_option maxRecDepth 100000 in
theorem gX11_divisions_X11_laysDivisions : GoodIn wsX11_divisions (wsV RX11 270 RX11 yX11_laysDivisions wsX11_laysDivisions) := goodIn_app (goodIn_of _ (by decide +kernel)) ggX11_divisions_X11_laysDivisions
set_option maxRecDepth 100000 in
theorem ggX11_divisions_X11_many : GoodIn wsX11_divisions wsX11_many := goodIn_r _ [14, 15, 51, 52, 53, 54, 55, 56, 57, 58, 59, 60, 61, 62, 63, 64, 65, 66, 67, 68, 69, 70, 71, 72, 73, 74, 75, 76, 77] rfl (by decide +kernel)
set_option maxRecDepth 100000 in
theorem gX11_divisions_X11_many : GoodIn wsX11_divisions (wsV RX11 207 RX11 yX11_many wsX11_many) := goodIn_app (goodIn_of _ (by decide +kernel)) ggX11_divisions_X11_many
theorem dX11_divisions_0 : decode cX11_divisions 0 = .ok (.aload_n 0, 1) := by decide +kernel
theorem dX11_divisions_1 : decode cX11_divisions 1 = .ok (.iconst 0, 1) := by decide +kernel
theorem dX11_divisions_2 : decode cX11_divisions 2 = .ok (.putfield 79, 3) := by decide +kernel
theorem dX11_divisions_5 : decode cX11_divisions 5 = .ok (.aload_n 0, 1) := by decide +kernel
theorem dX11_divisions_6 : decode cX11_divisions 6 = .ok (.invokevirtual 270, 3) := by decide +kernel
theorem dX11_divisions_9 : decode cX11_divisions 9 = .ok (.aload_n 0, 1) := by decide +kernel
theorem dX11_divisions_10 : decode cX11_divisions 10 = .ok (.invokevirtual 207, 3) := by decide +kernel
theorem dX11_divisions_13 : decode cX11_divisions 13 = .ok (.ifCond .ne 7, 3) := by decide +kernel
theorem dX11_divisions_16 : decode cX11_divisions 16 = .ok (.lconst 0, 1) := by decide +kernel
theorem dX11_divisions_17 : decode cX11_divisions 17 = .ok (.goto 9, 3) := by decide +kernel
theorem dX11_divisions_20 : decode cX11_divisions 20 = .ok (.aload_n 0, 1) := by decide +kernel
theorem dX11_divisions_21 : decode cX11_divisions 21 = .ok (.getfield 39, 3) := by decide +kernel
theorem dX11_divisions_24 : decode cX11_divisions 24 = .ok (.iconst 0, 1) := by decide +kernel
theorem dX11_divisions_25 : decode cX11_divisions 25 = .ok (.laload, 1) := by decide +kernel
theorem dX11_divisions_26 : decode cX11_divisions 26 = .ok (.lreturn, 1) := by decide +kernel
set_option maxRecDepth 100000 in
theorem ggX11_markOf_X11_beginOf : GoodIn wsX11_markOf wsX11_beginOf := goodIn_r _ [6, 1, 21, 22, 23, 24, 25, 26, 27, 28, 29, 30, 31, 32, 33, 34, 35, 36, 37, 38, 39, 40, 41, 42, 43, 44, 45, 46, 47] rfl (by decide +kernel)
set_option maxRecDepth 100000 in
theorem gX11_markOf_X11_beginOf : GoodIn wsX11_markOf (wsV RX11 280 RX11 yX11_beginOf wsX11_beginOf) := goodIn_app (goodIn_of _ (by decide +kernel)) ggX11_markOf_X11_beginOf
set_option maxRecDepth 100000 in
theorem ggX11_markOf_X11_usesIn : GoodIn wsX11_markOf wsX11_usesIn := goodIn_r _ [10, 11, 12, 13, 5, 14, 15, 21, 22, 23, 24, 25, 26, 27, 28, 29, 30, 31, 32, 33, 34, 35, 36, 37, 38, 39, 40, 41, 42, 43, 44, 45, 46, 47] rfl (by decide +kernel)
set_option maxRecDepth 100000 in
theorem gX11_markOf_X11_usesIn : GoodIn wsX11_markOf (wsV RX11 236 RX11 yX11_usesIn wsX11_usesIn) := goodIn_app (goodIn_of _ (by decide +kernel)) ggX11_markOf_X11_usesIn
set_option maxRecDepth 100000 in
theorem ggX11_markOf_X11_chaptersOf : GoodIn wsX11_markOf wsX11_chaptersOf := goodIn_r _ [19, 20, 1, 2, 3, 4, 5, 6, 7, 8, 9, 10, 11, 12, 13, 14, 15, 21, 22, 23, 24, 25, 26, 27, 28, 29, 30, 31, 32, 33, 34, 35, 36, 37, 38, 39, 40, 41, 42, 43, 44, 45, 46, 47] rfl (by decide +kernel)
set_option maxRecDepth 100000 in
theorem gX11_markOf_X11_chaptersOf : GoodIn wsX11_markOf (wsV RX11 295 RX11 yX11_chaptersOf wsX11_chaptersOf) := goodIn_app (goodIn_of _ (by decide +kernel)) ggX11_markOf_X11_chaptersOf
theorem dX11_markOf_0 : decode cX11_markOf 0 = .ok (.aload_n 0, 1) := by decide +kernel
theorem dX11_markOf_1 : decode cX11_markOf 1 = .ok (.iload_n 1, 1) := by decide +kernel
theorem dX11_markOf_2 : decode cX11_markOf 2 = .ok (.invokevirtual 280, 3) := by decide +kernel
theorem dX11_markOf_5 : decode cX11_markOf 5 = .ok (.istore_n 3, 1) := by decide +kernel
theorem dX11_markOf_6 : decode cX11_markOf 6 = .ok (.aload_n 0, 1) := by decide +kernel
theorem dX11_markOf_7 : decode cX11_markOf 7 = .ok (.iload_n 2, 1) := by decide +kernel
theorem dX11_markOf_8 : decode cX11_markOf 8 = .ok (.iload_n 3, 1) := by decide +kernel
theorem dX11_markOf_9 : decode cX11_markOf 9 = .ok (.aload_n 0, 1) := by decide +kernel
theorem dX11_markOf_10 : decode cX11_markOf 10 = .ok (.getfield 33, 3) := by decide +kernel
theorem dX11_markOf_13 : decode cX11_markOf 13 = .ok (.iload_n 3, 1) := by decide +kernel
theorem dX11_markOf_14 : decode cX11_markOf 14 = .ok (.iaload, 1) := by decide +kernel
theorem dX11_markOf_15 : decode cX11_markOf 15 = .ok (.invokevirtual 236, 3) := by decide +kernel
theorem dX11_markOf_18 : decode cX11_markOf 18 = .ok (.istore 4, 2) := by decide +kernel
theorem dX11_markOf_20 : decode cX11_markOf 20 = .ok (.iload 4, 2) := by decide +kernel
theorem dX11_markOf_22 : decode cX11_markOf 22 = .ok (.ifCond .ne 7, 3) := by decide +kernel
theorem dX11_markOf_25 : decode cX11_markOf 25 = .ok (.iconst 0, 1) := by decide +kernel
theorem dX11_markOf_26 : decode cX11_markOf 26 = .ok (.goto 15, 3) := by decide +kernel
theorem dX11_markOf_29 : decode cX11_markOf 29 = .ok (.sipush 1000, 3) := by decide +kernel
theorem dX11_markOf_32 : decode cX11_markOf 32 = .ok (.iload 4, 2) := by decide +kernel
theorem dX11_markOf_34 : decode cX11_markOf 34 = .ok (.imul, 1) := by decide +kernel
theorem dX11_markOf_35 : decode cX11_markOf 35 = .ok (.aload_n 0, 1) := by decide +kernel
theorem dX11_markOf_36 : decode cX11_markOf 36 = .ok (.iload_n 2, 1) := by decide +kernel
theorem dX11_markOf_37 : decode cX11_markOf 37 = .ok (.invokevirtual 295, 3) := by decide +kernel
theorem dX11_markOf_40 : decode cX11_markOf 40 = .ok (.idiv, 1) := by decide +kernel
theorem dX11_markOf_41 : decode cX11_markOf 41 = .ok (.ireturn, 1) := by decide +kernel
set_option maxRecDepth 100000 in
theorem ggX11_mark_X11_noChapter : GoodIn wsX11_mark wsX11_noChapter := goodIn_r _ [6, 7, 8, 9, 10, 5, 11, 12, 13, 14, 15, 16, 17, 18, 19, 20, 21, 22, 23, 24, 25, 26, 27, 28, 29, 30, 31, 32, 33, 34, 35, 36, 37, 38, 39, 40, 41, 42, 43, 44, 45, 46, 47, 48, 49, 50, 51, 52, 53, 54, 55, 56, 57, 58, 75, 76, 77, 78, 79, 80, 81, 82, 83, 84, 85, 86, 87, 88, 89, 90, 91, 92, 93, 94, 95, 96, 97, 98, 99, 100, 101] rfl (by decide +kernel)
set_option maxRecDepth 100000 in
theorem gX11_mark_X11_noChapter : GoodIn wsX11_mark (wsV RX11 277 RX11 yX11_noChapter wsX11_noChapter) := goodIn_app (goodIn_of _ (by decide +kernel)) ggX11_mark_X11_noChapter
set_option maxRecDepth 100000 in
theorem ggX11_mark_X11_isKnown : GoodIn wsX11_mark wsX11_isKnown := goodIn_r _ [62, 24, 51, 52, 5, 53, 75, 76, 77, 78, 79, 80, 81, 82, 83, 84, 85, 86, 87, 88, 89, 90, 91, 92, 93, 94, 95, 96, 97, 98, 99, 100, 101] rfl (by decide +kernel)
set_option maxRecDepth 100000 in
theorem gX11_mark_X11_isKnown : GoodIn wsX11_mark (wsV RX11 233 RX11 yX11_isKnown wsX11_isKnown) := goodIn_app (goodIn_of _ (by decide +kernel)) ggX11_mark_X11_isKnown
set_option maxRecDepth 100000 in
theorem ggX11_mark_X11_markOf : GoodIn wsX11_mark wsX11_markOf := goodIn_r _ [66, 58, 67, 68, 69, 5, 70, 33, 34, 35, 36, 37, 38, 39, 40, 24, 71, 72, 73, 74, 7, 75, 76, 77, 78, 79, 80, 81, 82, 83, 84, 85, 86, 87, 88, 89, 90, 91, 92, 93, 94, 95, 96, 97, 98, 99, 100, 101] rfl (by decide +kernel)
set_option maxRecDepth 100000 in
theorem gX11_mark_X11_markOf : GoodIn wsX11_mark (wsV RX11 298 RX11 yX11_markOf wsX11_markOf) := goodIn_app (goodIn_of _ (by decide +kernel)) ggX11_mark_X11_markOf
theorem dX11_mark_0 : decode cX11_mark 0 = .ok (.aload_n 0, 1) := by decide +kernel
theorem dX11_mark_1 : decode cX11_mark 1 = .ok (.aload_n 0, 1) := by decide +kernel
theorem dX11_mark_2 : decode cX11_mark 2 = .ok (.iload_n 1, 1) := by decide +kernel
theorem dX11_mark_3 : decode cX11_mark 3 = .ok (.invokevirtual 277, 3) := by decide +kernel
theorem dX11_mark_6 : decode cX11_mark 6 = .ok (.putfield 79, 3) := by decide +kernel
theorem dX11_mark_9 : decode cX11_mark 9 = .ok (.aload_n 0, 1) := by decide +kernel
theorem dX11_mark_10 : decode cX11_mark 10 = .ok (.getfield 79, 3) := by decide +kernel
theorem dX11_mark_13 : decode cX11_mark 13 = .ok (.ifCond .ne 16, 3) := by decide +kernel
theorem dX11_mark_16 : decode cX11_mark 16 = .ok (.aload_n 0, 1) := by decide +kernel
theorem dX11_mark_17 : decode cX11_mark 17 = .ok (.iload_n 2, 1) := by decide +kernel
theorem dX11_mark_18 : decode cX11_mark 18 = .ok (.invokevirtual 233, 3) := by decide +kernel
theorem dX11_mark_21 : decode cX11_mark 21 = .ok (.ifCond .ne 8, 3) := by decide +kernel
theorem dX11_mark_24 : decode cX11_mark 24 = .ok (.aload_n 0, 1) := by decide +kernel
theorem dX11_mark_25 : decode cX11_mark 25 = .ok (.iconst 2, 1) := by decide +kernel
theorem dX11_mark_26 : decode cX11_mark 26 = .ok (.putfield 79, 3) := by decide +kernel
theorem dX11_mark_29 : decode cX11_mark 29 = .ok (.aload_n 0, 1) := by decide +kernel
theorem dX11_mark_30 : decode cX11_mark 30 = .ok (.getfield 79, 3) := by decide +kernel
theorem dX11_mark_33 : decode cX11_mark 33 = .ok (.ifCond .le 7, 3) := by decide +kernel
theorem dX11_mark_36 : decode cX11_mark 36 = .ok (.iconst 0, 1) := by decide +kernel
theorem dX11_mark_37 : decode cX11_mark 37 = .ok (.goto 9, 3) := by decide +kernel
theorem dX11_mark_40 : decode cX11_mark 40 = .ok (.aload_n 0, 1) := by decide +kernel
theorem dX11_mark_41 : decode cX11_mark 41 = .ok (.iload_n 1, 1) := by decide +kernel
theorem dX11_mark_42 : decode cX11_mark 42 = .ok (.iload_n 2, 1) := by decide +kernel
theorem dX11_mark_43 : decode cX11_mark 43 = .ok (.invokevirtual 298, 3) := by decide +kernel
theorem dX11_mark_46 : decode cX11_mark 46 = .ok (.ireturn, 1) := by decide +kernel
set_option maxRecDepth 100000 in
theorem ggX11_chaptersOf_X11_beginOf : GoodIn wsX11_chaptersOf wsX11_beginOf := goodIn_r _ [7, 2, 17, 18, 19, 20, 21, 22, 23, 24, 25, 26, 27, 28, 29, 30, 31, 32, 33, 34, 35, 36, 37, 38, 39, 40, 41, 42, 43] rfl (by decide +kernel)
set_option maxRecDepth 100000 in
theorem gX11_chaptersOf_X11_beginOf : GoodIn wsX11_chaptersOf (wsV RX11 280 RX11 yX11_beginOf wsX11_beginOf) := goodIn_app (goodIn_of _ (by decide +kernel)) ggX11_chaptersOf_X11_beginOf
set_option maxRecDepth 100000 in
theorem ggX11_chaptersOf_X11_usesIn : GoodIn wsX11_chaptersOf wsX11_usesIn := goodIn_r _ [11, 12, 13, 14, 6, 15, 16, 17, 18, 19, 20, 21, 22, 23, 24, 25, 26, 27, 28, 29, 30, 31, 32, 33, 34, 35, 36, 37, 38, 39, 40, 41, 42, 43] rfl (by decide +kernel)
set_option maxRecDepth 100000 in
theorem gX11_chaptersOf_X11_usesIn : GoodIn wsX11_chaptersOf (wsV RX11 236 RX11 yX11_usesIn wsX11_usesIn) := goodIn_app (goodIn_of _ (by decide +kernel)) ggX11_chaptersOf_X11_usesIn
theorem dX11_chaptersOf_0 : decode cX11_chaptersOf 0 = .ok (.iconst 0, 1) := by decide +kernel
theorem dX11_chaptersOf_1 : decode cX11_chaptersOf 1 = .ok (.istore_n 2, 1) := by decide +kernel
theorem dX11_chaptersOf_2 : decode cX11_chaptersOf 2 = .ok (.iconst 0, 1) := by decide +kernel
theorem dX11_chaptersOf_3 : decode cX11_chaptersOf 3 = .ok (.istore_n 3, 1) := by decide +kernel
theorem dX11_chaptersOf_4 : decode cX11_chaptersOf 4 = .ok (.iload_n 3, 1) := by decide +kernel
theorem dX11_chaptersOf_5 : decode cX11_chaptersOf 5 = .ok (.aload_n 0, 1) := by decide +kernel
theorem dX11_chaptersOf_6 : decode cX11_chaptersOf 6 = .ok (.getfield 30, 3) := by decide +kernel
theorem dX11_chaptersOf_9 : decode cX11_chaptersOf 9 = .ok (.iconst 0, 1) := by decide +kernel
theorem dX11_chaptersOf_10 : decode cX11_chaptersOf 10 = .ok (.iaload, 1) := by decide +kernel
theorem dX11_chaptersOf_11 : decode cX11_chaptersOf 11 = .ok (.if_icmp .gt 40, 3) := by decide +kernel
theorem dX11_chaptersOf_14 : decode cX11_chaptersOf 14 = .ok (.iload_n 2, 1) := by decide +kernel
theorem dX11_chaptersOf_15 : decode cX11_chaptersOf 15 = .ok (.aload_n 0, 1) := by decide +kernel
theorem dX11_chaptersOf_16 : decode cX11_chaptersOf 16 = .ok (.iload_n 1, 1) := by decide +kernel
theorem dX11_chaptersOf_17 : decode cX11_chaptersOf 17 = .ok (.aload_n 0, 1) := by decide +kernel
theorem dX11_chaptersOf_18 : decode cX11_chaptersOf 18 = .ok (.iload_n 3, 1) := by decide +kernel
theorem dX11_chaptersOf_19 : decode cX11_chaptersOf 19 = .ok (.invokevirtual 280, 3) := by decide +kernel
theorem dX11_chaptersOf_22 : decode cX11_chaptersOf 22 = .ok (.aload_n 0, 1) := by decide +kernel
theorem dX11_chaptersOf_23 : decode cX11_chaptersOf 23 = .ok (.getfield 33, 3) := by decide +kernel
theorem dX11_chaptersOf_26 : decode cX11_chaptersOf 26 = .ok (.aload_n 0, 1) := by decide +kernel
theorem dX11_chaptersOf_27 : decode cX11_chaptersOf 27 = .ok (.iload_n 3, 1) := by decide +kernel
theorem dX11_chaptersOf_28 : decode cX11_chaptersOf 28 = .ok (.invokevirtual 280, 3) := by decide +kernel
theorem dX11_chaptersOf_31 : decode cX11_chaptersOf 31 = .ok (.iaload, 1) := by decide +kernel
theorem dX11_chaptersOf_32 : decode cX11_chaptersOf 32 = .ok (.invokevirtual 236, 3) := by decide +kernel
theorem dX11_chaptersOf_35 : decode cX11_chaptersOf 35 = .ok (.ifCond .le 7, 3) := by decide +kernel
theorem dX11_chaptersOf_38 : decode cX11_chaptersOf 38 = .ok (.iconst 1, 1) := by decide +kernel
theorem dX11_chaptersOf_39 : decode cX11_chaptersOf 39 = .ok (.goto 4, 3) := by decide +kernel
theorem dX11_chaptersOf_42 : decode cX11_chaptersOf 42 = .ok (.iconst 0, 1) := by decide +kernel
theorem dX11_chaptersOf_43 : decode cX11_chaptersOf 43 = .ok (.iadd, 1) := by decide +kernel
theorem dX11_chaptersOf_44 : decode cX11_chaptersOf 44 = .ok (.istore_n 2, 1) := by decide +kernel
theorem dX11_chaptersOf_45 : decode cX11_chaptersOf 45 = .ok (.iinc 3 1, 3) := by decide +kernel
theorem dX11_chaptersOf_48 : decode cX11_chaptersOf 48 = .ok (.goto (-44), 3) := by decide +kernel
theorem dX11_chaptersOf_51 : decode cX11_chaptersOf 51 = .ok (.iload_n 2, 1) := by decide +kernel
theorem dX11_chaptersOf_52 : decode cX11_chaptersOf 52 = .ok (.ireturn, 1) := by decide +kernel
set_option maxRecDepth 100000 in
theorem ggX11_chaptersWith_X11_hasBest : GoodIn wsX11_chaptersWith wsX11_hasBest := goodIn_r _ [6, 7, 8, 9, 10, 11, 5, 12, 13, 14, 15, 16, 17, 18, 19, 20, 21, 22, 23, 24, 25, 26, 27, 28, 29, 30, 31, 32, 33, 34, 35, 36, 37, 38, 39, 40, 41, 42, 43, 44, 45, 46, 47, 48, 49, 50, 51, 52, 53, 54, 67, 68, 69, 70, 71, 72, 73, 74, 75, 76, 77, 78, 79, 80, 81, 82, 83, 84, 85, 86, 87, 88, 89, 90, 91, 92, 93] rfl (by decide +kernel)
set_option maxRecDepth 100000 in
theorem gX11_chaptersWith_X11_hasBest : GoodIn wsX11_chaptersWith (wsV RX11 273 RX11 yX11_hasBest wsX11_hasBest) := goodIn_app (goodIn_of _ (by decide +kernel)) ggX11_chaptersWith_X11_hasBest
set_option maxRecDepth 100000 in
theorem ggX11_chaptersWith_X11_isKnown : GoodIn wsX11_chaptersWith wsX11_isKnown := goodIn_r _ [58, 19, 46, 47, 5, 48, 67, 68, 69, 70, 71, 72, 73, 74, 75, 76, 77, 78, 79, 80, 81, 82, 83, 84, 85, 86, 87, 88, 89, 90, 91, 92, 93] rfl (by decide +kernel)
set_option maxRecDepth 100000 in
theorem gX11_chaptersWith_X11_isKnown : GoodIn wsX11_chaptersWith (wsV RX11 233 RX11 yX11_isKnown wsX11_isKnown) := goodIn_app (goodIn_of _ (by decide +kernel)) ggX11_chaptersWith_X11_isKnown
set_option maxRecDepth 100000 in
theorem ggX11_chaptersWith_X11_chaptersOf : GoodIn wsX11_chaptersWith wsX11_chaptersOf := goodIn_r _ [62, 53, 54, 63, 64, 65, 5, 66, 28, 29, 30, 31, 32, 33, 34, 35, 19, 67, 68, 69, 70, 71, 72, 73, 74, 75, 76, 77, 78, 79, 80, 81, 82, 83, 84, 85, 86, 87, 88, 89, 90, 91, 92, 93] rfl (by decide +kernel)
set_option maxRecDepth 100000 in
theorem gX11_chaptersWith_X11_chaptersOf : GoodIn wsX11_chaptersWith (wsV RX11 295 RX11 yX11_chaptersOf wsX11_chaptersOf) := goodIn_app (goodIn_of _ (by decide +kernel)) ggX11_chaptersWith_X11_chaptersOf
theorem dX11_chaptersWith_0 : decode cX11_chaptersWith 0 = .ok (.aload_n 0, 1) := by decide +kernel
theorem dX11_chaptersWith_1 : decode cX11_chaptersWith 1 = .ok (.aload_n 0, 1) := by decide +kernel
theorem dX11_chaptersWith_2 : decode cX11_chaptersWith 2 = .ok (.invokevirtual 273, 3) := by decide +kernel
theorem dX11_chaptersWith_5 : decode cX11_chaptersWith 5 = .ok (.ifCond .ne 7, 3) := by decide +kernel
theorem dX11_chaptersWith_8 : decode cX11_chaptersWith 8 = .ok (.iconst 1, 1) := by decide +kernel
theorem dX11_chaptersWith_9 : decode cX11_chaptersWith 9 = .ok (.goto 16, 3) := by decide +kernel
theorem dX11_chaptersWith_12 : decode cX11_chaptersWith 12 = .ok (.aload_n 0, 1) := by decide +kernel
theorem dX11_chaptersWith_13 : decode cX11_chaptersWith 13 = .ok (.iload_n 1, 1) := by decide +kernel
theorem dX11_chaptersWith_14 : decode cX11_chaptersWith 14 = .ok (.invokevirtual 233, 3) := by decide +kernel
theorem dX11_chaptersWith_17 : decode cX11_chaptersWith 17 = .ok (.ifCond .eq 7, 3) := by decide +kernel
theorem dX11_chaptersWith_20 : decode cX11_chaptersWith 20 = .ok (.iconst 0, 1) := by decide +kernel
theorem dX11_chaptersWith_21 : decode cX11_chaptersWith 21 = .ok (.goto 4, 3) := by decide +kernel
theorem dX11_chaptersWith_24 : decode cX11_chaptersWith 24 = .ok (.iconst 2, 1) := by decide +kernel
theorem dX11_chaptersWith_25 : decode cX11_chaptersWith 25 = .ok (.putfield 79, 3) := by decide +kernel
theorem dX11_chaptersWith_28 : decode cX11_chaptersWith 28 = .ok (.aload_n 0, 1) := by decide +kernel
theorem dX11_chaptersWith_29 : decode cX11_chaptersWith 29 = .ok (.getfield 79, 3) := by decide +kernel
theorem dX11_chaptersWith_32 : decode cX11_chaptersWith 32 = .ok (.ifCond .le 7, 3) := by decide +kernel
theorem dX11_chaptersWith_35 : decode cX11_chaptersWith 35 = .ok (.iconst 0, 1) := by decide +kernel
theorem dX11_chaptersWith_36 : decode cX11_chaptersWith 36 = .ok (.goto 8, 3) := by decide +kernel
theorem dX11_chaptersWith_39 : decode cX11_chaptersWith 39 = .ok (.aload_n 0, 1) := by decide +kernel
theorem dX11_chaptersWith_40 : decode cX11_chaptersWith 40 = .ok (.iload_n 1, 1) := by decide +kernel
theorem dX11_chaptersWith_41 : decode cX11_chaptersWith 41 = .ok (.invokevirtual 295, 3) := by decide +kernel
theorem dX11_chaptersWith_44 : decode cX11_chaptersWith 44 = .ok (.ireturn, 1) := by decide +kernel
set_option maxRecDepth 100000 in
theorem ggX11_typical_X11_noChapter : GoodIn wsX11_typical wsX11_noChapter := goodIn_r _ [7, 8, 9, 10, 11, 6, 12, 13, 14, 15, 16, 17, 18, 19, 20, 21, 22, 23, 24, 25, 26, 27, 28, 29, 30, 31, 32, 33, 34, 35, 36, 37, 38, 39, 40, 41, 42, 43, 44, 45, 46, 47, 48, 49, 50, 51, 52, 53, 54, 55, 56, 57, 58, 2, 71, 72, 73, 74, 75, 76, 77, 78, 79, 80, 81, 82, 83, 84, 85, 86, 87, 88, 89, 90, 91, 92, 93, 94, 95, 96, 97] rfl (by decide +kernel)
set_option maxRecDepth 100000 in
theorem gX11_typical_X11_noChapter : GoodIn wsX11_typical (wsV RX11 277 RX11 yX11_noChapter wsX11_noChapter) := goodIn_app (goodIn_of _ (by decide +kernel)) ggX11_typical_X11_noChapter
set_option maxRecDepth 100000 in
theorem ggX11_typical_X11_beginOf : GoodIn wsX11_typical wsX11_beginOf := goodIn_r _ [62, 2, 71, 72, 73, 74, 75, 76, 77, 78, 79, 80, 81, 82, 83, 84, 85, 86, 87, 88, 89, 90, 91, 92, 93, 94, 95, 96, 97] rfl (by decide +kernel)
set_option maxRecDepth 100000 in
theorem gX11_typical_X11_beginOf : GoodIn wsX11_typical (wsV RX11 280 RX11 yX11_beginOf wsX11_beginOf) := goodIn_app (goodIn_of _ (by decide +kernel)) ggX11_typical_X11_beginOf
set_option maxRecDepth 100000 in
theorem ggX11_typical_X11_of : GoodIn wsX11_typical wsX11_of := goodIn_r _ [41, 25, 71, 72, 73, 74, 75, 76, 77, 78, 79, 80, 81, 82, 83, 84, 85, 86, 87, 88, 89, 90, 91, 92, 93, 94, 95, 96, 97] rfl (by decide +kernel)
set_option maxRecDepth 100000 in
theorem gX11_typical_X11_of : GoodIn wsX11_typical (wsV RX11 210 RX11 yX11_of wsX11_of) := goodIn_app (goodIn_of _ (by decide +kernel)) ggX11_typical_X11_of
set_option maxRecDepth 100000 in
theorem ggX11_typical_X11_markOf : GoodIn wsX11_typical wsX11_markOf := goodIn_r _ [66, 2, 59, 60, 61, 6, 62, 34, 35, 36, 37, 38, 39, 40, 41, 25, 67, 68, 69, 70, 8, 71, 72, 73, 74, 75, 76, 77, 78, 79, 80, 81, 82, 83, 84, 85, 86, 87, 88, 89, 90, 91, 92, 93, 94, 95, 96, 97] rfl (by decide +kernel)
set_option maxRecDepth 100000 in
theorem gX11_typical_X11_markOf : GoodIn wsX11_typical (wsV RX11 298 RX11 yX11_markOf wsX11_markOf) := goodIn_app (goodIn_of _ (by decide +kernel)) ggX11_typical_X11_markOf
theorem dX11_typical_0 : decode cX11_typical 0 = .ok (.aload_n 0, 1) := by decide +kernel
theorem dX11_typical_1 : decode cX11_typical 1 = .ok (.aload_n 0, 1) := by decide +kernel
theorem dX11_typical_2 : decode cX11_typical 2 = .ok (.iload_n 1, 1) := by decide +kernel
theorem dX11_typical_3 : decode cX11_typical 3 = .ok (.invokevirtual 277, 3) := by decide +kernel
theorem dX11_typical_6 : decode cX11_typical 6 = .ok (.putfield 79, 3) := by decide +kernel
theorem dX11_typical_9 : decode cX11_typical 9 = .ok (.aload_n 0, 1) := by decide +kernel
theorem dX11_typical_10 : decode cX11_typical 10 = .ok (.getfield 79, 3) := by decide +kernel
theorem dX11_typical_13 : decode cX11_typical 13 = .ok (.ifCond .le 5, 3) := by decide +kernel
theorem dX11_typical_16 : decode cX11_typical 16 = .ok (.iconst 0, 1) := by decide +kernel
theorem dX11_typical_17 : decode cX11_typical 17 = .ok (.ireturn, 1) := by decide +kernel
theorem dX11_typical_18 : decode cX11_typical 18 = .ok (.aload_n 0, 1) := by decide +kernel
theorem dX11_typical_19 : decode cX11_typical 19 = .ok (.iload_n 1, 1) := by decide +kernel
theorem dX11_typical_20 : decode cX11_typical 20 = .ok (.invokevirtual 280, 3) := by decide +kernel
theorem dX11_typical_23 : decode cX11_typical 23 = .ok (.istore_n 2, 1) := by decide +kernel
theorem dX11_typical_24 : decode cX11_typical 24 = .ok (.iload_n 2, 1) := by decide +kernel
theorem dX11_typical_25 : decode cX11_typical 25 = .ok (.istore_n 3, 1) := by decide +kernel
theorem dX11_typical_26 : decode cX11_typical 26 = .ok (.iconst (-1), 1) := by decide +kernel
theorem dX11_typical_27 : decode cX11_typical 27 = .ok (.istore 4, 2) := by decide +kernel
theorem dX11_typical_29 : decode cX11_typical 29 = .ok (.iload_n 2, 1) := by decide +kernel
theorem dX11_typical_30 : decode cX11_typical 30 = .ok (.istore 5, 2) := by decide +kernel
theorem dX11_typical_32 : decode cX11_typical 32 = .ok (.iload 5, 2) := by decide +kernel
theorem dX11_typical_34 : decode cX11_typical 34 = .ok (.aload_n 0, 1) := by decide +kernel
theorem dX11_typical_35 : decode cX11_typical 35 = .ok (.getfield 33, 3) := by decide +kernel
theorem dX11_typical_38 : decode cX11_typical 38 = .ok (.iload_n 2, 1) := by decide +kernel
theorem dX11_typical_39 : decode cX11_typical 39 = .ok (.iaload, 1) := by decide +kernel
theorem dX11_typical_40 : decode cX11_typical 40 = .ok (.if_icmp .gt 79, 3) := by decide +kernel
theorem dX11_typical_43 : decode cX11_typical 43 = .ok (.iconst 0, 1) := by decide +kernel
theorem dX11_typical_44 : decode cX11_typical 44 = .ok (.istore 6, 2) := by decide +kernel
theorem dX11_typical_46 : decode cX11_typical 46 = .ok (.iconst 0, 1) := by decide +kernel
theorem dX11_typical_47 : decode cX11_typical 47 = .ok (.istore 7, 2) := by decide +kernel
theorem dX11_typical_49 : decode cX11_typical 49 = .ok (.iload 7, 2) := by decide +kernel
theorem dX11_typical_51 : decode cX11_typical 51 = .ok (.aload_n 0, 1) := by decide +kernel
theorem dX11_typical_52 : decode cX11_typical 52 = .ok (.iload 5, 2) := by decide +kernel
theorem dX11_typical_54 : decode cX11_typical 54 = .ok (.iconst 2, 1) := by decide +kernel
theorem dX11_typical_55 : decode cX11_typical 55 = .ok (.invokevirtual 210, 3) := by decide +kernel
theorem dX11_typical_58 : decode cX11_typical 58 = .ok (.if_icmp .ge 29, 3) := by decide +kernel
theorem dX11_typical_61 : decode cX11_typical 61 = .ok (.iload 6, 2) := by decide +kernel
theorem dX11_typical_63 : decode cX11_typical 63 = .ok (.aload_n 0, 1) := by decide +kernel
theorem dX11_typical_64 : decode cX11_typical 64 = .ok (.iload_n 1, 1) := by decide +kernel
theorem dX11_typical_65 : decode cX11_typical 65 = .ok (.aload_n 0, 1) := by decide +kernel
theorem dX11_typical_66 : decode cX11_typical 66 = .ok (.iload 5, 2) := by decide +kernel
theorem dX11_typical_68 : decode cX11_typical 68 = .ok (.iconst 3, 1) := by decide +kernel
theorem dX11_typical_69 : decode cX11_typical 69 = .ok (.iload 7, 2) := by decide +kernel
theorem dX11_typical_71 : decode cX11_typical 71 = .ok (.iadd, 1) := by decide +kernel
theorem dX11_typical_72 : decode cX11_typical 72 = .ok (.invokevirtual 210, 3) := by decide +kernel
theorem dX11_typical_75 : decode cX11_typical 75 = .ok (.invokevirtual 298, 3) := by decide +kernel
theorem dX11_typical_78 : decode cX11_typical 78 = .ok (.iadd, 1) := by decide +kernel
theorem dX11_typical_79 : decode cX11_typical 79 = .ok (.istore 6, 2) := by decide +kernel
theorem dX11_typical_81 : decode cX11_typical 81 = .ok (.iinc 7 1, 3) := by decide +kernel
theorem dX11_typical_84 : decode cX11_typical 84 = .ok (.goto (-35), 3) := by decide +kernel
theorem dX11_typical_87 : decode cX11_typical 87 = .ok (.iload 6, 2) := by decide +kernel
theorem dX11_typical_89 : decode cX11_typical 89 = .ok (.iload 4, 2) := by decide +kernel
theorem dX11_typical_91 : decode cX11_typical 91 = .ok (.if_icmp .le 6, 3) := by decide +kernel
theorem dX11_typical_94 : decode cX11_typical 94 = .ok (.iload 5, 2) := by decide +kernel
theorem dX11_typical_96 : decode cX11_typical 96 = .ok (.istore_n 3, 1) := by decide +kernel
theorem dX11_typical_97 : decode cX11_typical 97 = .ok (.iload 6, 2) := by decide +kernel
theorem dX11_typical_99 : decode cX11_typical 99 = .ok (.iload 4, 2) := by decide +kernel
theorem dX11_typical_101 : decode cX11_typical 101 = .ok (.if_icmp .le 8, 3) := by decide +kernel
theorem dX11_typical_104 : decode cX11_typical 104 = .ok (.iload 6, 2) := by decide +kernel
theorem dX11_typical_106 : decode cX11_typical 106 = .ok (.goto 5, 3) := by decide +kernel
theorem dX11_typical_109 : decode cX11_typical 109 = .ok (.iload 4, 2) := by decide +kernel
theorem dX11_typical_111 : decode cX11_typical 111 = .ok (.istore 4, 2) := by decide +kernel
theorem dX11_typical_113 : decode cX11_typical 113 = .ok (.iinc 5 1, 3) := by decide +kernel
theorem dX11_typical_116 : decode cX11_typical 116 = .ok (.goto (-84), 3) := by decide +kernel
theorem dX11_typical_119 : decode cX11_typical 119 = .ok (.iload_n 3, 1) := by decide +kernel
theorem dX11_typical_120 : decode cX11_typical 120 = .ok (.ireturn, 1) := by decide +kernel
set_option maxRecDepth 100000 in
theorem ggX11_likeness_X11_noChapter : GoodIn wsX11_likeness wsX11_noChapter := goodIn_r _ [7, 8, 9, 10, 11, 6, 12, 13, 14, 15, 16, 17, 18, 19, 20, 21, 22, 23, 24, 25, 26, 27, 28, 29, 30, 31, 32, 33, 34, 35, 36, 37, 38, 39, 40, 41, 42, 43, 44, 45, 46, 47, 48, 49, 50, 51, 52, 53, 54, 55, 56, 57, 58, 2, 63, 64, 65, 66, 67, 68, 69, 70, 71, 72, 73, 74, 75, 76, 77, 78, 79, 80, 81, 82, 83, 84, 85, 86, 87, 88, 89] rfl (by decide +kernel)
set_option maxRecDepth 100000 in
theorem gX11_likeness_X11_noChapter : GoodIn wsX11_likeness (wsV RX11 277 RX11 yX11_noChapter wsX11_noChapter) := goodIn_app (goodIn_of _ (by decide +kernel)) ggX11_likeness_X11_noChapter
set_option maxRecDepth 100000 in
theorem ggX11_likeness_X11_beginOf : GoodIn wsX11_likeness wsX11_beginOf := goodIn_r _ [62, 2, 63, 64, 65, 66, 67, 68, 69, 70, 71, 72, 73, 74, 75, 76, 77, 78, 79, 80, 81, 82, 83, 84, 85, 86, 87, 88, 89] rfl (by decide +kernel)
set_option maxRecDepth 100000 in
theorem gX11_likeness_X11_beginOf : GoodIn wsX11_likeness (wsV RX11 280 RX11 yX11_beginOf wsX11_beginOf) := goodIn_app (goodIn_of _ (by decide +kernel)) ggX11_likeness_X11_beginOf
set_option maxRecDepth 100000 in
theorem ggX11_likeness_X11_likenessOf : GoodIn wsX11_likeness wsX11_likenessOf := goodIn_r _ [33, 25, 34, 35, 36, 6, 37, 38, 39, 40, 41, 63, 64, 65, 66, 67, 68, 69, 70, 71, 72, 73, 74, 75, 76, 77, 78, 79, 80, 81, 82, 83, 84, 85, 86, 87, 88, 89] rfl (by decide +kernel)
set_option maxRecDepth 100000 in
theorem gX11_likeness_X11_likenessOf : GoodIn wsX11_likeness (wsV RX11 251 RX11 yX11_likenessOf wsX11_likenessOf) := goodIn_app (goodIn_of _ (by decide +kernel)) ggX11_likeness_X11_likenessOf
theorem dX11_likeness_0 : decode cX11_likeness 0 = .ok (.aload_n 0, 1) := by decide +kernel
theorem dX11_likeness_1 : decode cX11_likeness 1 = .ok (.aload_n 0, 1) := by decide +kernel
theorem dX11_likeness_2 : decode cX11_likeness 2 = .ok (.iload_n 1, 1) := by decide +kernel
theorem dX11_likeness_3 : decode cX11_likeness 3 = .ok (.invokevirtual 277, 3) := by decide +kernel
theorem dX11_likeness_6 : decode cX11_likeness 6 = .ok (.putfield 79, 3) := by decide +kernel
theorem dX11_likeness_9 : decode cX11_likeness 9 = .ok (.aload_n 0, 1) := by decide +kernel
theorem dX11_likeness_10 : decode cX11_likeness 10 = .ok (.getfield 79, 3) := by decide +kernel
theorem dX11_likeness_13 : decode cX11_likeness 13 = .ok (.ifCond .ne 12, 3) := by decide +kernel
theorem dX11_likeness_16 : decode cX11_likeness 16 = .ok (.aload_n 0, 1) := by decide +kernel
theorem dX11_likeness_17 : decode cX11_likeness 17 = .ok (.aload_n 0, 1) := by decide +kernel
theorem dX11_likeness_18 : decode cX11_likeness 18 = .ok (.iload_n 2, 1) := by decide +kernel
theorem dX11_likeness_19 : decode cX11_likeness 19 = .ok (.invokevirtual 277, 3) := by decide +kernel
theorem dX11_likeness_22 : decode cX11_likeness 22 = .ok (.putfield 79, 3) := by decide +kernel
theorem dX11_likeness_25 : decode cX11_likeness 25 = .ok (.aload_n 0, 1) := by decide +kernel
theorem dX11_likeness_26 : decode cX11_likeness 26 = .ok (.getfield 79, 3) := by decide +kernel
theorem dX11_likeness_29 : decode cX11_likeness 29 = .ok (.ifCond .le 5, 3) := by decide +kernel
theorem dX11_likeness_32 : decode cX11_likeness 32 = .ok (.iconst 0, 1) := by decide +kernel
theorem dX11_likeness_33 : decode cX11_likeness 33 = .ok (.ireturn, 1) := by decide +kernel
theorem dX11_likeness_34 : decode cX11_likeness 34 = .ok (.aload_n 0, 1) := by decide +kernel
theorem dX11_likeness_35 : decode cX11_likeness 35 = .ok (.iload_n 1, 1) := by decide +kernel
theorem dX11_likeness_36 : decode cX11_likeness 36 = .ok (.invokevirtual 280, 3) := by decide +kernel
theorem dX11_likeness_39 : decode cX11_likeness 39 = .ok (.istore_n 3, 1) := by decide +kernel
theorem dX11_likeness_40 : decode cX11_likeness 40 = .ok (.aload_n 0, 1) := by decide +kernel
theorem dX11_likeness_41 : decode cX11_likeness 41 = .ok (.iload_n 2, 1) := by decide +kernel
theorem dX11_likeness_42 : decode cX11_likeness 42 = .ok (.invokevirtual 280, 3) := by decide +kernel
theorem dX11_likeness_45 : decode cX11_likeness 45 = .ok (.istore 4, 2) := by decide +kernel
theorem dX11_likeness_47 : decode cX11_likeness 47 = .ok (.aload_n 0, 1) := by decide +kernel
theorem dX11_likeness_48 : decode cX11_likeness 48 = .ok (.iload_n 3, 1) := by decide +kernel
theorem dX11_likeness_49 : decode cX11_likeness 49 = .ok (.aload_n 0, 1) := by decide +kernel
theorem dX11_likeness_50 : decode cX11_likeness 50 = .ok (.getfield 33, 3) := by decide +kernel
theorem dX11_likeness_53 : decode cX11_likeness 53 = .ok (.iload_n 3, 1) := by decide +kernel
theorem dX11_likeness_54 : decode cX11_likeness 54 = .ok (.iaload, 1) := by decide +kernel
theorem dX11_likeness_55 : decode cX11_likeness 55 = .ok (.iload 4, 2) := by decide +kernel
theorem dX11_likeness_57 : decode cX11_likeness 57 = .ok (.aload_n 0, 1) := by decide +kernel
theorem dX11_likeness_58 : decode cX11_likeness 58 = .ok (.getfield 33, 3) := by decide +kernel
theorem dX11_likeness_61 : decode cX11_likeness 61 = .ok (.iload 4, 2) := by decide +kernel
theorem dX11_likeness_63 : decode cX11_likeness 63 = .ok (.iaload, 1) := by decide +kernel
theorem dX11_likeness_64 : decode cX11_likeness 64 = .ok (.invokevirtual 251, 3) := by decide +kernel
theorem dX11_likeness_67 : decode cX11_likeness 67 = .ok (.ireturn, 1) := by decide +kernel
set_option maxRecDepth 100000 in
theorem ggX11_titleWord_X11_has : GoodIn wsX11_titleWord wsX11_has := goodIn_r _ [5] rfl (by decide +kernel)
set_option maxRecDepth 100000 in
theorem gX11_titleWord_X11_has : GoodIn wsX11_titleWord (va_wsS RX11 292 yX11_has wsX11_has) := goodIn_app (goodIn_of _ (by decide +kernel)) ggX11_titleWord_X11_has
set_option maxRecDepth 100000 in
theorem ggX11_titleWord_X11_markOf : GoodIn wsX11_titleWord wsX11_markOf := goodIn_r _ [9, 10, 11, 12, 13, 4, 14, 15, 16, 17, 18, 19, 20, 21, 22, 1, 23, 24, 25, 26, 27, 28, 29, 30, 31, 32, 33, 34, 35, 36, 37, 38, 39, 40, 41, 42, 43, 44, 45, 46, 47, 48, 49, 50, 51, 52, 53, 54] rfl (by decide +kernel)
set_option maxRecDepth 100000 in
theorem gX11_titleWord_X11_markOf : GoodIn wsX11_titleWord (wsV RX11 298 RX11 yX11_markOf wsX11_markOf) := goodIn_app (goodIn_of _ (by decide +kernel)) ggX11_titleWord_X11_markOf
theorem dX11_titleWord_0 : decode cX11_titleWord 0 = .ok (.iconst 0, 1) := by decide +kernel
theorem dX11_titleWord_1 : decode cX11_titleWord 1 = .ok (.istore_n 3, 1) := by decide +kernel
theorem dX11_titleWord_2 : decode cX11_titleWord 2 = .ok (.iconst (-1), 1) := by decide +kernel
theorem dX11_titleWord_3 : decode cX11_titleWord 3 = .ok (.istore 4, 2) := by decide +kernel
theorem dX11_titleWord_5 : decode cX11_titleWord 5 = .ok (.iconst 0, 1) := by decide +kernel
theorem dX11_titleWord_6 : decode cX11_titleWord 6 = .ok (.istore 5, 2) := by decide +kernel
theorem dX11_titleWord_8 : decode cX11_titleWord 8 = .ok (.iload 5, 2) := by decide +kernel
theorem dX11_titleWord_10 : decode cX11_titleWord 10 = .ok (.iload_n 2, 1) := by decide +kernel
theorem dX11_titleWord_11 : decode cX11_titleWord 11 = .ok (.if_icmp .gt 99, 3) := by decide +kernel
theorem dX11_titleWord_14 : decode cX11_titleWord 14 = .ok (.iconst (-1), 1) := by decide +kernel
theorem dX11_titleWord_15 : decode cX11_titleWord 15 = .ok (.istore 4, 2) := by decide +kernel
theorem dX11_titleWord_17 : decode cX11_titleWord 17 = .ok (.iconst 0, 1) := by decide +kernel
theorem dX11_titleWord_18 : decode cX11_titleWord 18 = .ok (.istore 6, 2) := by decide +kernel
theorem dX11_titleWord_20 : decode cX11_titleWord 20 = .ok (.iload 6, 2) := by decide +kernel
theorem dX11_titleWord_22 : decode cX11_titleWord 22 = .ok (.i2l, 1) := by decide +kernel
theorem dX11_titleWord_23 : decode cX11_titleWord 23 = .ok (.aload_n 0, 1) := by decide +kernel
theorem dX11_titleWord_24 : decode cX11_titleWord 24 = .ok (.getfield 9, 3) := by decide +kernel
theorem dX11_titleWord_27 : decode cX11_titleWord 27 = .ok (.bipush 7, 2) := by decide +kernel
theorem dX11_titleWord_29 : decode cX11_titleWord 29 = .ok (.laload, 1) := by decide +kernel
theorem dX11_titleWord_30 : decode cX11_titleWord 30 = .ok (.lcmp, 1) := by decide +kernel
theorem dX11_titleWord_31 : decode cX11_titleWord 31 = .ok (.ifCond .ge 58, 3) := by decide +kernel
theorem dX11_titleWord_34 : decode cX11_titleWord 34 = .ok (.iload_n 3, 1) := by decide +kernel
theorem dX11_titleWord_35 : decode cX11_titleWord 35 = .ok (.iload 6, 2) := by decide +kernel
theorem dX11_titleWord_37 : decode cX11_titleWord 37 = .ok (.invokestatic 292, 3) := by decide +kernel
theorem dX11_titleWord_40 : decode cX11_titleWord 40 = .ok (.ifCond .ne 43, 3) := by decide +kernel
theorem dX11_titleWord_43 : decode cX11_titleWord 43 = .ok (.aload_n 0, 1) := by decide +kernel
theorem dX11_titleWord_44 : decode cX11_titleWord 44 = .ok (.iload_n 1, 1) := by decide +kernel
theorem dX11_titleWord_45 : decode cX11_titleWord 45 = .ok (.iload 6, 2) := by decide +kernel
theorem dX11_titleWord_47 : decode cX11_titleWord 47 = .ok (.invokevirtual 298, 3) := by decide +kernel
theorem dX11_titleWord_50 : decode cX11_titleWord 50 = .ok (.ifCond .ne 6, 3) := by decide +kernel
theorem dX11_titleWord_53 : decode cX11_titleWord 53 = .ok (.goto 30, 3) := by decide +kernel
theorem dX11_titleWord_56 : decode cX11_titleWord 56 = .ok (.iload 4, 2) := by decide +kernel
theorem dX11_titleWord_58 : decode cX11_titleWord 58 = .ok (.iconst (-1), 1) := by decide +kernel
theorem dX11_titleWord_59 : decode cX11_titleWord 59 = .ok (.if_icmp .eq 20, 3) := by decide +kernel
theorem dX11_titleWord_62 : decode cX11_titleWord 62 = .ok (.aload_n 0, 1) := by decide +kernel
theorem dX11_titleWord_63 : decode cX11_titleWord 63 = .ok (.iload_n 1, 1) := by decide +kernel
theorem dX11_titleWord_64 : decode cX11_titleWord 64 = .ok (.iload 6, 2) := by decide +kernel
theorem dX11_titleWord_66 : decode cX11_titleWord 66 = .ok (.invokevirtual 298, 3) := by decide +kernel
theorem dX11_titleWord_69 : decode cX11_titleWord 69 = .ok (.aload_n 0, 1) := by decide +kernel
theorem dX11_titleWord_70 : decode cX11_titleWord 70 = .ok (.iload_n 1, 1) := by decide +kernel
theorem dX11_titleWord_71 : decode cX11_titleWord 71 = .ok (.iload 4, 2) := by decide +kernel
theorem dX11_titleWord_73 : decode cX11_titleWord 73 = .ok (.invokevirtual 298, 3) := by decide +kernel
theorem dX11_titleWord_76 : decode cX11_titleWord 76 = .ok (.if_icmp .le 7, 3) := by decide +kernel
theorem dX11_titleWord_79 : decode cX11_titleWord 79 = .ok (.iload 6, 2) := by decide +kernel
theorem dX11_titleWord_81 : decode cX11_titleWord 81 = .ok (.istore 4, 2) := by decide +kernel
theorem dX11_titleWord_83 : decode cX11_titleWord 83 = .ok (.iinc 6 1, 3) := by decide +kernel
theorem dX11_titleWord_86 : decode cX11_titleWord 86 = .ok (.goto (-66), 3) := by decide +kernel
theorem dX11_titleWord_89 : decode cX11_titleWord 89 = .ok (.iload 4, 2) := by decide +kernel
theorem dX11_titleWord_91 : decode cX11_titleWord 91 = .ok (.iconst (-1), 1) := by decide +kernel
theorem dX11_titleWord_92 : decode cX11_titleWord 92 = .ok (.if_icmp .ne 5, 3) := by decide +kernel
theorem dX11_titleWord_95 : decode cX11_titleWord 95 = .ok (.iconst (-1), 1) := by decide +kernel
theorem dX11_titleWord_96 : decode cX11_titleWord 96 = .ok (.ireturn, 1) := by decide +kernel
theorem dX11_titleWord_97 : decode cX11_titleWord 97 = .ok (.iload_n 3, 1) := by decide +kernel
theorem dX11_titleWord_98 : decode cX11_titleWord 98 = .ok (.iconst 1, 1) := by decide +kernel
theorem dX11_titleWord_99 : decode cX11_titleWord 99 = .ok (.iload 4, 2) := by decide +kernel
theorem dX11_titleWord_101 : decode cX11_titleWord 101 = .ok (.ishl, 1) := by decide +kernel
theorem dX11_titleWord_102 : decode cX11_titleWord 102 = .ok (.ior, 1) := by decide +kernel
theorem dX11_titleWord_103 : decode cX11_titleWord 103 = .ok (.istore_n 3, 1) := by decide +kernel
theorem dX11_titleWord_104 : decode cX11_titleWord 104 = .ok (.iinc 5 1, 3) := by decide +kernel
theorem dX11_titleWord_107 : decode cX11_titleWord 107 = .ok (.goto (-99), 3) := by decide +kernel
theorem dX11_titleWord_110 : decode cX11_titleWord 110 = .ok (.iload 4, 2) := by decide +kernel
theorem dX11_titleWord_112 : decode cX11_titleWord 112 = .ok (.ireturn, 1) := by decide +kernel
set_option maxRecDepth 100000 in
theorem ggX11_title_X11_noChapter : GoodIn wsX11_title wsX11_noChapter := goodIn_r _ [7, 8, 9, 10, 11, 6, 12, 13, 14, 15, 16, 17, 18, 19, 20, 21, 22, 23, 24, 25, 26, 27, 28, 29, 30, 31, 32, 33, 34, 35, 36, 37, 38, 39, 40, 41, 42, 43, 44, 45, 46, 47, 48, 49, 50, 51, 52, 53, 54, 55, 56, 57, 58, 59, 79, 80, 81, 82, 83, 84, 85, 86, 87, 88, 89, 90, 91, 92, 93, 94, 95, 96, 97, 98, 99, 100, 101, 102, 103, 104, 105] rfl (by decide +kernel)
set_option maxRecDepth 100000 in
theorem gX11_title_X11_noChapter : GoodIn wsX11_title (wsV RX11 277 RX11 yX11_noChapter wsX11_noChapter) := goodIn_app (goodIn_of _ (by decide +kernel)) ggX11_title_X11_noChapter
set_option maxRecDepth 100000 in
theorem ggX11_title_X11_isIn : GoodIn wsX11_title wsX11_isIn := goodIn_r _ [54] rfl (by decide +kernel)
set_option maxRecDepth 100000 in
theorem gX11_title_X11_isIn : GoodIn wsX11_title (va_wsS RX11 95 yX11_isIn wsX11_isIn) := goodIn_app (goodIn_of _ (by decide +kernel)) ggX11_title_X11_isIn
set_option maxRecDepth 100000 in
theorem ggX11_title_X11_titleWord : GoodIn wsX11_title wsX11_titleWord := goodIn_r _ [63, 25, 64, 65, 6, 66, 67, 68, 69, 70, 59, 71, 72, 73, 74, 34, 35, 36, 37, 38, 39, 40, 41, 75, 76, 77, 78, 8, 79, 80, 81, 82, 83, 84, 85, 86, 87, 88, 89, 90, 91, 92, 93, 94, 95, 96, 97, 98, 99, 100, 101, 102, 103, 104, 105] rfl (by decide +kernel)
set_option maxRecDepth 100000 in
theorem gX11_title_X11_titleWord : GoodIn wsX11_title (wsV RX11 301 RX11 yX11_titleWord wsX11_titleWord) := goodIn_app (goodIn_of _ (by decide +kernel)) ggX11_title_X11_titleWord
theorem dX11_title_0 : decode cX11_title 0 = .ok (.aload_n 0, 1) := by decide +kernel
theorem dX11_title_1 : decode cX11_title 1 = .ok (.aload_n 0, 1) := by decide +kernel
theorem dX11_title_2 : decode cX11_title 2 = .ok (.iload_n 1, 1) := by decide +kernel
theorem dX11_title_3 : decode cX11_title 3 = .ok (.invokevirtual 277, 3) := by decide +kernel
theorem dX11_title_6 : decode cX11_title 6 = .ok (.putfield 79, 3) := by decide +kernel
theorem dX11_title_9 : decode cX11_title 9 = .ok (.aload_n 0, 1) := by decide +kernel
theorem dX11_title_10 : decode cX11_title 10 = .ok (.getfield 79, 3) := by decide +kernel
theorem dX11_title_13 : decode cX11_title 13 = .ok (.ifCond .ne 20, 3) := by decide +kernel
theorem dX11_title_16 : decode cX11_title 16 = .ok (.iload_n 2, 1) := by decide +kernel
theorem dX11_title_17 : decode cX11_title 17 = .ok (.i2l, 1) := by decide +kernel
theorem dX11_title_18 : decode cX11_title 18 = .ok (.lconst 0, 1) := by decide +kernel
theorem dX11_title_19 : decode cX11_title 19 = .ok (.ldc2_w 71, 3) := by decide +kernel
theorem dX11_title_22 : decode cX11_title 22 = .ok (.invokestatic 95, 3) := by decide +kernel
theorem dX11_title_25 : decode cX11_title 25 = .ok (.ifCond .ne 8, 3) := by decide +kernel
theorem dX11_title_28 : decode cX11_title 28 = .ok (.aload_n 0, 1) := by decide +kernel
theorem dX11_title_29 : decode cX11_title 29 = .ok (.iconst 2, 1) := by decide +kernel
theorem dX11_title_30 : decode cX11_title 30 = .ok (.putfield 79, 3) := by decide +kernel
theorem dX11_title_33 : decode cX11_title 33 = .ok (.aload_n 0, 1) := by decide +kernel
theorem dX11_title_34 : decode cX11_title 34 = .ok (.getfield 79, 3) := by decide +kernel
theorem dX11_title_37 : decode cX11_title 37 = .ok (.ifCond .le 7, 3) := by decide +kernel
theorem dX11_title_40 : decode cX11_title 40 = .ok (.iconst 0, 1) := by decide +kernel
theorem dX11_title_41 : decode cX11_title 41 = .ok (.goto 9, 3) := by decide +kernel
theorem dX11_title_44 : decode cX11_title 44 = .ok (.aload_n 0, 1) := by decide +kernel
theorem dX11_title_45 : decode cX11_title 45 = .ok (.iload_n 1, 1) := by decide +kernel
theorem dX11_title_46 : decode cX11_title 46 = .ok (.iload_n 2, 1) := by decide +kernel
theorem dX11_title_47 : decode cX11_title 47 = .ok (.invokevirtual 301, 3) := by decide +kernel
theorem dX11_title_50 : decode cX11_title 50 = .ok (.ireturn, 1) := by decide +kernel
theorem dX11_ofSlot_0 : decode cX11_ofSlot 0 = .ok (.aload_n 0, 1) := by decide +kernel
theorem dX11_ofSlot_1 : decode cX11_ofSlot 1 = .ok (.getfield 9, 3) := by decide +kernel
theorem dX11_ofSlot_4 : decode cX11_ofSlot 4 = .ok (.sipush 394, 3) := by decide +kernel
theorem dX11_ofSlot_7 : decode cX11_ofSlot 7 = .ok (.iconst 3, 1) := by decide +kernel
theorem dX11_ofSlot_8 : decode cX11_ofSlot 8 = .ok (.iload_n 1, 1) := by decide +kernel
theorem dX11_ofSlot_9 : decode cX11_ofSlot 9 = .ok (.imul, 1) := by decide +kernel
theorem dX11_ofSlot_10 : decode cX11_ofSlot 10 = .ok (.iadd, 1) := by decide +kernel
theorem dX11_ofSlot_11 : decode cX11_ofSlot 11 = .ok (.iload_n 2, 1) := by decide +kernel
theorem dX11_ofSlot_12 : decode cX11_ofSlot 12 = .ok (.iadd, 1) := by decide +kernel
theorem dX11_ofSlot_13 : decode cX11_ofSlot 13 = .ok (.laload, 1) := by decide +kernel
theorem dX11_ofSlot_14 : decode cX11_ofSlot 14 = .ok (.l2i, 1) := by decide +kernel
theorem dX11_ofSlot_15 : decode cX11_ofSlot 15 = .ok (.ireturn, 1) := by decide +kernel
set_option maxRecDepth 100000 in
theorem ggX11_isSlot_X11_isIn : GoodIn wsX11_isSlot wsX11_isIn := goodIn_r _ [5] rfl (by decide +kernel)
set_option maxRecDepth 100000 in
theorem gX11_isSlot_X11_isIn : GoodIn wsX11_isSlot (va_wsS RX11 95 yX11_isIn wsX11_isIn) := goodIn_app (goodIn_of _ (by decide +kernel)) ggX11_isSlot_X11_isIn
theorem dX11_isSlot_0 : decode cX11_isSlot 0 = .ok (.iload_n 1, 1) := by decide +kernel
theorem dX11_isSlot_1 : decode cX11_isSlot 1 = .ok (.i2l, 1) := by decide +kernel
theorem dX11_isSlot_2 : decode cX11_isSlot 2 = .ok (.lconst 0, 1) := by decide +kernel
theorem dX11_isSlot_3 : decode cX11_isSlot 3 = .ok (.aload_n 0, 1) := by decide +kernel
theorem dX11_isSlot_4 : decode cX11_isSlot 4 = .ok (.getfield 9, 3) := by decide +kernel
theorem dX11_isSlot_7 : decode cX11_isSlot 7 = .ok (.bipush 8, 2) := by decide +kernel
theorem dX11_isSlot_9 : decode cX11_isSlot 9 = .ok (.laload, 1) := by decide +kernel
theorem dX11_isSlot_10 : decode cX11_isSlot 10 = .ok (.lconst 1, 1) := by decide +kernel
theorem dX11_isSlot_11 : decode cX11_isSlot 11 = .ok (.lsub, 1) := by decide +kernel
theorem dX11_isSlot_12 : decode cX11_isSlot 12 = .ok (.invokestatic 95, 3) := by decide +kernel
theorem dX11_isSlot_15 : decode cX11_isSlot 15 = .ok (.ireturn, 1) := by decide +kernel
set_option maxRecDepth 100000 in
theorem ggX11_addSlot_X11_isIn : GoodIn wsX11_addSlot wsX11_isIn := goodIn_r _ [10] rfl (by decide +kernel)
set_option maxRecDepth 100000 in
theorem gX11_addSlot_X11_isIn : GoodIn wsX11_addSlot (va_wsS RX11 95 yX11_isIn wsX11_isIn) := goodIn_app (goodIn_of _ (by decide +kernel)) ggX11_addSlot_X11_isIn
set_option maxRecDepth 100000 in
theorem ggX11_addSlot_X11_keeps : GoodIn wsX11_addSlot wsX11_keeps := goodIn_r _ [14, 15, 16, 4, 20, 21, 22, 23, 24, 25, 26, 27, 28, 29, 30, 31, 32, 33, 34, 35, 36, 37, 38, 39, 40, 41, 42, 43, 44, 45, 46] rfl (by decide +kernel)
set_option maxRecDepth 100000 in
theorem gX11_addSlot_X11_keeps : GoodIn wsX11_addSlot (wsV RX11 204 RX11 yX11_keeps wsX11_keeps) := goodIn_app (goodIn_of _ (by decide +kernel)) ggX11_addSlot_X11_keeps
set_option maxRecDepth 100000 in
theorem ggX11_addSlot_X11_putsSlot : GoodIn wsX11_addSlot wsX11_putsSlot := goodIn_r _ [19] rfl (by decide +kernel)
set_option maxRecDepth 100000 in
theorem gX11_addSlot_X11_putsSlot : GoodIn wsX11_addSlot (va_wsS RX11 183 yX11_putsSlot wsX11_putsSlot) := goodIn_app (goodIn_of _ (by decide +kernel)) ggX11_addSlot_X11_putsSlot
theorem dX11_addSlot_0 : decode cX11_addSlot 0 = .ok (.iload_n 1, 1) := by decide +kernel
theorem dX11_addSlot_1 : decode cX11_addSlot 1 = .ok (.i2l, 1) := by decide +kernel
theorem dX11_addSlot_2 : decode cX11_addSlot 2 = .ok (.lconst 0, 1) := by decide +kernel
theorem dX11_addSlot_3 : decode cX11_addSlot 3 = .ok (.ldc2_w 304, 3) := by decide +kernel
theorem dX11_addSlot_6 : decode cX11_addSlot 6 = .ok (.invokestatic 95, 3) := by decide +kernel
theorem dX11_addSlot_9 : decode cX11_addSlot 9 = .ok (.ifCond .eq 31, 3) := by decide +kernel
theorem dX11_addSlot_12 : decode cX11_addSlot 12 = .ok (.iload_n 2, 1) := by decide +kernel
theorem dX11_addSlot_13 : decode cX11_addSlot 13 = .ok (.i2l, 1) := by decide +kernel
theorem dX11_addSlot_14 : decode cX11_addSlot 14 = .ok (.lconst 1, 1) := by decide +kernel
theorem dX11_addSlot_15 : decode cX11_addSlot 15 = .ok (.ldc2_w 306, 3) := by decide +kernel
theorem dX11_addSlot_18 : decode cX11_addSlot 18 = .ok (.invokestatic 95, 3) := by decide +kernel
theorem dX11_addSlot_21 : decode cX11_addSlot 21 = .ok (.ifCond .eq 19, 3) := by decide +kernel
theorem dX11_addSlot_24 : decode cX11_addSlot 24 = .ok (.iload_n 3, 1) := by decide +kernel
theorem dX11_addSlot_25 : decode cX11_addSlot 25 = .ok (.i2l, 1) := by decide +kernel
theorem dX11_addSlot_26 : decode cX11_addSlot 26 = .ok (.lconst 0, 1) := by decide +kernel
theorem dX11_addSlot_27 : decode cX11_addSlot 27 = .ok (.ldc2_w 240, 3) := by decide +kernel
theorem dX11_addSlot_30 : decode cX11_addSlot 30 = .ok (.invokestatic 95, 3) := by decide +kernel
theorem dX11_addSlot_33 : decode cX11_addSlot 33 = .ok (.ifCond .eq 7, 3) := by decide +kernel
theorem dX11_addSlot_36 : decode cX11_addSlot 36 = .ok (.iconst 1, 1) := by decide +kernel
theorem dX11_addSlot_37 : decode cX11_addSlot 37 = .ok (.goto 4, 3) := by decide +kernel
theorem dX11_addSlot_40 : decode cX11_addSlot 40 = .ok (.iconst 0, 1) := by decide +kernel
theorem dX11_addSlot_41 : decode cX11_addSlot 41 = .ok (.istore 4, 2) := by decide +kernel
theorem dX11_addSlot_43 : decode cX11_addSlot 43 = .ok (.aload_n 0, 1) := by decide +kernel
theorem dX11_addSlot_44 : decode cX11_addSlot 44 = .ok (.iload 4, 2) := by decide +kernel
theorem dX11_addSlot_46 : decode cX11_addSlot 46 = .ok (.ifCond .ne 7, 3) := by decide +kernel
theorem dX11_addSlot_49 : decode cX11_addSlot 49 = .ok (.iconst 1, 1) := by decide +kernel
theorem dX11_addSlot_50 : decode cX11_addSlot 50 = .ok (.goto 22, 3) := by decide +kernel
theorem dX11_addSlot_53 : decode cX11_addSlot 53 = .ok (.aload_n 0, 1) := by decide +kernel
theorem dX11_addSlot_54 : decode cX11_addSlot 54 = .ok (.getfield 9, 3) := by decide +kernel
theorem dX11_addSlot_57 : decode cX11_addSlot 57 = .ok (.bipush 8, 2) := by decide +kernel
theorem dX11_addSlot_59 : decode cX11_addSlot 59 = .ok (.laload, 1) := by decide +kernel
theorem dX11_addSlot_60 : decode cX11_addSlot 60 = .ok (.ldc2_w 75, 3) := by decide +kernel
theorem dX11_addSlot_63 : decode cX11_addSlot 63 = .ok (.lcmp, 1) := by decide +kernel
theorem dX11_addSlot_64 : decode cX11_addSlot 64 = .ok (.ifCond .ne 7, 3) := by decide +kernel
theorem dX11_addSlot_67 : decode cX11_addSlot 67 = .ok (.iconst 2, 1) := by decide +kernel
theorem dX11_addSlot_68 : decode cX11_addSlot 68 = .ok (.goto 4, 3) := by decide +kernel
theorem dX11_addSlot_71 : decode cX11_addSlot 71 = .ok (.iconst 0, 1) := by decide +kernel
theorem dX11_addSlot_72 : decode cX11_addSlot 72 = .ok (.putfield 79, 3) := by decide +kernel
theorem dX11_addSlot_75 : decode cX11_addSlot 75 = .ok (.aload_n 0, 1) := by decide +kernel
theorem dX11_addSlot_76 : decode cX11_addSlot 76 = .ok (.getfield 79, 3) := by decide +kernel
theorem dX11_addSlot_79 : decode cX11_addSlot 79 = .ok (.ifCond .le 5, 3) := by decide +kernel
theorem dX11_addSlot_82 : decode cX11_addSlot 82 = .ok (.iconst 0, 1) := by decide +kernel
theorem dX11_addSlot_83 : decode cX11_addSlot 83 = .ok (.ireturn, 1) := by decide +kernel
theorem dX11_addSlot_84 : decode cX11_addSlot 84 = .ok (.aload_n 0, 1) := by decide +kernel
theorem dX11_addSlot_85 : decode cX11_addSlot 85 = .ok (.invokevirtual 204, 3) := by decide +kernel
theorem dX11_addSlot_88 : decode cX11_addSlot 88 = .ok (.aload_n 0, 1) := by decide +kernel
theorem dX11_addSlot_89 : decode cX11_addSlot 89 = .ok (.getfield 9, 3) := by decide +kernel
theorem dX11_addSlot_92 : decode cX11_addSlot 92 = .ok (.iload_n 1, 1) := by decide +kernel
theorem dX11_addSlot_93 : decode cX11_addSlot 93 = .ok (.iload_n 2, 1) := by decide +kernel
theorem dX11_addSlot_94 : decode cX11_addSlot 94 = .ok (.iload_n 3, 1) := by decide +kernel
theorem dX11_addSlot_95 : decode cX11_addSlot 95 = .ok (.invokestatic 183, 3) := by decide +kernel
theorem dX11_addSlot_98 : decode cX11_addSlot 98 = .ok (.ireturn, 1) := by decide +kernel
theorem dX11_takesSlot_0 : decode cX11_takesSlot 0 = .ok (.aload_n 0, 1) := by decide +kernel
theorem dX11_takesSlot_1 : decode cX11_takesSlot 1 = .ok (.getfield 9, 3) := by decide +kernel
theorem dX11_takesSlot_4 : decode cX11_takesSlot 4 = .ok (.bipush 8, 2) := by decide +kernel
theorem dX11_takesSlot_6 : decode cX11_takesSlot 6 = .ok (.laload, 1) := by decide +kernel
theorem dX11_takesSlot_7 : decode cX11_takesSlot 7 = .ok (.l2i, 1) := by decide +kernel
theorem dX11_takesSlot_8 : decode cX11_takesSlot 8 = .ok (.iconst 1, 1) := by decide +kernel
theorem dX11_takesSlot_9 : decode cX11_takesSlot 9 = .ok (.isub, 1) := by decide +kernel
theorem dX11_takesSlot_10 : decode cX11_takesSlot 10 = .ok (.istore_n 2, 1) := by decide +kernel
theorem dX11_takesSlot_11 : decode cX11_takesSlot 11 = .ok (.sipush 394, 3) := by decide +kernel
theorem dX11_takesSlot_14 : decode cX11_takesSlot 14 = .ok (.iconst 3, 1) := by decide +kernel
theorem dX11_takesSlot_15 : decode cX11_takesSlot 15 = .ok (.iload_n 1, 1) := by decide +kernel
theorem dX11_takesSlot_16 : decode cX11_takesSlot 16 = .ok (.imul, 1) := by decide +kernel
theorem dX11_takesSlot_17 : decode cX11_takesSlot 17 = .ok (.iadd, 1) := by decide +kernel
theorem dX11_takesSlot_18 : decode cX11_takesSlot 18 = .ok (.istore_n 3, 1) := by decide +kernel
theorem dX11_takesSlot_19 : decode cX11_takesSlot 19 = .ok (.iload_n 3, 1) := by decide +kernel
theorem dX11_takesSlot_20 : decode cX11_takesSlot 20 = .ok (.sipush 394, 3) := by decide +kernel
theorem dX11_takesSlot_23 : decode cX11_takesSlot 23 = .ok (.iconst 3, 1) := by decide +kernel
theorem dX11_takesSlot_24 : decode cX11_takesSlot 24 = .ok (.iload_n 2, 1) := by decide +kernel
theorem dX11_takesSlot_25 : decode cX11_takesSlot 25 = .ok (.imul, 1) := by decide +kernel
theorem dX11_takesSlot_26 : decode cX11_takesSlot 26 = .ok (.iadd, 1) := by decide +kernel
theorem dX11_takesSlot_27 : decode cX11_takesSlot 27 = .ok (.if_icmp .ge 23, 3) := by decide +kernel
theorem dX11_takesSlot_30 : decode cX11_takesSlot 30 = .ok (.aload_n 0, 1) := by decide +kernel
theorem dX11_takesSlot_31 : decode cX11_takesSlot 31 = .ok (.getfield 9, 3) := by decide +kernel
theorem dX11_takesSlot_34 : decode cX11_takesSlot 34 = .ok (.iload_n 3, 1) := by decide +kernel
theorem dX11_takesSlot_35 : decode cX11_takesSlot 35 = .ok (.aload_n 0, 1) := by decide +kernel
theorem dX11_takesSlot_36 : decode cX11_takesSlot 36 = .ok (.getfield 9, 3) := by decide +kernel
theorem dX11_takesSlot_39 : decode cX11_takesSlot 39 = .ok (.iload_n 3, 1) := by decide +kernel
theorem dX11_takesSlot_40 : decode cX11_takesSlot 40 = .ok (.iconst 3, 1) := by decide +kernel
theorem dX11_takesSlot_41 : decode cX11_takesSlot 41 = .ok (.iadd, 1) := by decide +kernel
theorem dX11_takesSlot_42 : decode cX11_takesSlot 42 = .ok (.laload, 1) := by decide +kernel
theorem dX11_takesSlot_43 : decode cX11_takesSlot 43 = .ok (.lastore, 1) := by decide +kernel
theorem dX11_takesSlot_44 : decode cX11_takesSlot 44 = .ok (.iinc 3 1, 3) := by decide +kernel
theorem dX11_takesSlot_47 : decode cX11_takesSlot 47 = .ok (.goto (-28), 3) := by decide +kernel
theorem dX11_takesSlot_50 : decode cX11_takesSlot 50 = .ok (.sipush 394, 3) := by decide +kernel
theorem dX11_takesSlot_53 : decode cX11_takesSlot 53 = .ok (.iconst 3, 1) := by decide +kernel
theorem dX11_takesSlot_54 : decode cX11_takesSlot 54 = .ok (.iload_n 2, 1) := by decide +kernel
theorem dX11_takesSlot_55 : decode cX11_takesSlot 55 = .ok (.imul, 1) := by decide +kernel
theorem dX11_takesSlot_56 : decode cX11_takesSlot 56 = .ok (.iadd, 1) := by decide +kernel
theorem dX11_takesSlot_57 : decode cX11_takesSlot 57 = .ok (.istore_n 3, 1) := by decide +kernel
theorem dX11_takesSlot_58 : decode cX11_takesSlot 58 = .ok (.iload_n 3, 1) := by decide +kernel
theorem dX11_takesSlot_59 : decode cX11_takesSlot 59 = .ok (.sipush 394, 3) := by decide +kernel
theorem dX11_takesSlot_62 : decode cX11_takesSlot 62 = .ok (.iconst 3, 1) := by decide +kernel
theorem dX11_takesSlot_63 : decode cX11_takesSlot 63 = .ok (.iload_n 2, 1) := by decide +kernel
theorem dX11_takesSlot_64 : decode cX11_takesSlot 64 = .ok (.imul, 1) := by decide +kernel
theorem dX11_takesSlot_65 : decode cX11_takesSlot 65 = .ok (.iadd, 1) := by decide +kernel
theorem dX11_takesSlot_66 : decode cX11_takesSlot 66 = .ok (.iconst 3, 1) := by decide +kernel
theorem dX11_takesSlot_67 : decode cX11_takesSlot 67 = .ok (.iadd, 1) := by decide +kernel
theorem dX11_takesSlot_68 : decode cX11_takesSlot 68 = .ok (.if_icmp .ge 16, 3) := by decide +kernel
theorem dX11_takesSlot_71 : decode cX11_takesSlot 71 = .ok (.aload_n 0, 1) := by decide +kernel
theorem dX11_takesSlot_72 : decode cX11_takesSlot 72 = .ok (.getfield 9, 3) := by decide +kernel
theorem dX11_takesSlot_75 : decode cX11_takesSlot 75 = .ok (.iload_n 3, 1) := by decide +kernel
theorem dX11_takesSlot_76 : decode cX11_takesSlot 76 = .ok (.lconst 0, 1) := by decide +kernel
theorem dX11_takesSlot_77 : decode cX11_takesSlot 77 = .ok (.lastore, 1) := by decide +kernel
theorem dX11_takesSlot_78 : decode cX11_takesSlot 78 = .ok (.iinc 3 1, 3) := by decide +kernel
theorem dX11_takesSlot_81 : decode cX11_takesSlot 81 = .ok (.goto (-23), 3) := by decide +kernel
theorem dX11_takesSlot_84 : decode cX11_takesSlot 84 = .ok (.aload_n 0, 1) := by decide +kernel
theorem dX11_takesSlot_85 : decode cX11_takesSlot 85 = .ok (.getfield 9, 3) := by decide +kernel
theorem dX11_takesSlot_88 : decode cX11_takesSlot 88 = .ok (.bipush 8, 2) := by decide +kernel
theorem dX11_takesSlot_90 : decode cX11_takesSlot 90 = .ok (.iload_n 2, 1) := by decide +kernel
theorem dX11_takesSlot_91 : decode cX11_takesSlot 91 = .ok (.i2l, 1) := by decide +kernel
theorem dX11_takesSlot_92 : decode cX11_takesSlot 92 = .ok (.lastore, 1) := by decide +kernel
theorem dX11_takesSlot_93 : decode cX11_takesSlot 93 = .ok (.return_, 1) := by decide +kernel
set_option maxRecDepth 100000 in
theorem ggX11_removeSlot_X11_isSlot : GoodIn wsX11_removeSlot wsX11_isSlot := goodIn_r _ [7, 2, 8, 9, 6, 10, 21, 22, 23, 24, 25, 26, 27, 28, 29, 30, 31, 32, 33, 34, 35, 36, 37, 38, 39, 40, 41, 42, 43, 44, 45, 46, 47] rfl (by decide +kernel)
set_option maxRecDepth 100000 in
theorem gX11_removeSlot_X11_isSlot : GoodIn wsX11_removeSlot (wsV RX11 308 RX11 yX11_isSlot wsX11_isSlot) := goodIn_app (goodIn_of _ (by decide +kernel)) ggX11_removeSlot_X11_isSlot
set_option maxRecDepth 100000 in
theorem ggX11_removeSlot_X11_keeps : GoodIn wsX11_removeSlot wsX11_keeps := goodIn_r _ [14, 15, 16, 2, 21, 22, 23, 24, 25, 26, 27, 28, 29, 30, 31, 32, 33, 34, 35, 36, 37, 38, 39, 40, 41, 42, 43, 44, 45, 46, 47] rfl (by decide +kernel)
set_option maxRecDepth 100000 in
theorem gX11_removeSlot_X11_keeps : GoodIn wsX11_removeSlot (wsV RX11 204 RX11 yX11_keeps wsX11_keeps) := goodIn_app (goodIn_of _ (by decide +kernel)) ggX11_removeSlot_X11_keeps
set_option maxRecDepth 100000 in
theorem ggX11_removeSlot_X11_takesSlot : GoodIn wsX11_removeSlot wsX11_takesSlot := goodIn_r _ [20, 2, 21, 22, 23, 24, 25, 26, 27, 28, 29, 30, 31, 32, 33, 34, 35, 36, 37, 38, 39, 40, 41, 42, 43, 44, 45, 46, 47] rfl (by decide +kernel)
set_option maxRecDepth 100000 in
theorem gX11_removeSlot_X11_takesSlot : GoodIn wsX11_removeSlot (wsV RX11 311 RX11 yX11_takesSlot wsX11_takesSlot) := goodIn_app (goodIn_of _ (by decide +kernel)) ggX11_removeSlot_X11_takesSlot
theorem dX11_removeSlot_0 : decode cX11_removeSlot 0 = .ok (.aload_n 0, 1) := by decide +kernel
theorem dX11_removeSlot_1 : decode cX11_removeSlot 1 = .ok (.aload_n 0, 1) := by decide +kernel
theorem dX11_removeSlot_2 : decode cX11_removeSlot 2 = .ok (.iload_n 1, 1) := by decide +kernel
theorem dX11_removeSlot_3 : decode cX11_removeSlot 3 = .ok (.invokevirtual 308, 3) := by decide +kernel
theorem dX11_removeSlot_6 : decode cX11_removeSlot 6 = .ok (.ifCond .eq 7, 3) := by decide +kernel
theorem dX11_removeSlot_9 : decode cX11_removeSlot 9 = .ok (.iconst 0, 1) := by decide +kernel
theorem dX11_removeSlot_10 : decode cX11_removeSlot 10 = .ok (.goto 4, 3) := by decide +kernel
theorem dX11_removeSlot_13 : decode cX11_removeSlot 13 = .ok (.iconst 1, 1) := by decide +kernel
theorem dX11_removeSlot_14 : decode cX11_removeSlot 14 = .ok (.putfield 79, 3) := by decide +kernel
theorem dX11_removeSlot_17 : decode cX11_removeSlot 17 = .ok (.aload_n 0, 1) := by decide +kernel
theorem dX11_removeSlot_18 : decode cX11_removeSlot 18 = .ok (.getfield 79, 3) := by decide +kernel
theorem dX11_removeSlot_21 : decode cX11_removeSlot 21 = .ok (.ifCond .le 5, 3) := by decide +kernel
theorem dX11_removeSlot_24 : decode cX11_removeSlot 24 = .ok (.iconst 0, 1) := by decide +kernel
theorem dX11_removeSlot_25 : decode cX11_removeSlot 25 = .ok (.ireturn, 1) := by decide +kernel
theorem dX11_removeSlot_26 : decode cX11_removeSlot 26 = .ok (.aload_n 0, 1) := by decide +kernel
theorem dX11_removeSlot_27 : decode cX11_removeSlot 27 = .ok (.invokevirtual 204, 3) := by decide +kernel
theorem dX11_removeSlot_30 : decode cX11_removeSlot 30 = .ok (.aload_n 0, 1) := by decide +kernel
theorem dX11_removeSlot_31 : decode cX11_removeSlot 31 = .ok (.iload_n 1, 1) := by decide +kernel
theorem dX11_removeSlot_32 : decode cX11_removeSlot 32 = .ok (.invokevirtual 311, 3) := by decide +kernel
theorem dX11_removeSlot_35 : decode cX11_removeSlot 35 = .ok (.aload_n 0, 1) := by decide +kernel
theorem dX11_removeSlot_36 : decode cX11_removeSlot 36 = .ok (.getfield 9, 3) := by decide +kernel
theorem dX11_removeSlot_39 : decode cX11_removeSlot 39 = .ok (.bipush 8, 2) := by decide +kernel
theorem dX11_removeSlot_41 : decode cX11_removeSlot 41 = .ok (.laload, 1) := by decide +kernel
theorem dX11_removeSlot_42 : decode cX11_removeSlot 42 = .ok (.l2i, 1) := by decide +kernel
theorem dX11_removeSlot_43 : decode cX11_removeSlot 43 = .ok (.ireturn, 1) := by decide +kernel
set_option maxRecDepth 100000 in
theorem ggX11_moveSlot_X11_isSlot : GoodIn wsX11_moveSlot wsX11_isSlot := goodIn_r _ [8, 3, 9, 10, 7, 11, 29, 30, 31, 32, 33, 34, 35, 36, 37, 38, 39, 40, 41, 42, 43, 44, 45, 46, 47, 48, 49, 50, 51, 52, 53, 54, 55] rfl (by decide +kernel)
set_option maxRecDepth 100000 in
theorem gX11_moveSlot_X11_isSlot : GoodIn wsX11_moveSlot (wsV RX11 308 RX11 yX11_isSlot wsX11_isSlot) := goodIn_app (goodIn_of _ (by decide +kernel)) ggX11_moveSlot_X11_isSlot
set_option maxRecDepth 100000 in
theorem ggX11_moveSlot_X11_isIn : GoodIn wsX11_moveSlot wsX11_isIn := goodIn_r _ [11] rfl (by decide +kernel)
set_option maxRecDepth 100000 in
theorem gX11_moveSlot_X11_isIn : GoodIn wsX11_moveSlot (va_wsS RX11 95 yX11_isIn wsX11_isIn) := goodIn_app (goodIn_of _ (by decide +kernel)) ggX11_moveSlot_X11_isIn
set_option maxRecDepth 100000 in
theorem ggX11_moveSlot_X11_keeps : GoodIn wsX11_moveSlot wsX11_keeps := goodIn_r _ [15, 16, 17, 3, 29, 30, 31, 32, 33, 34, 35, 36, 37, 38, 39, 40, 41, 42, 43, 44, 45, 46, 47, 48, 49, 50, 51, 52, 53, 54, 55] rfl (by decide +kernel)
set_option maxRecDepth 100000 in
theorem gX11_moveSlot_X11_keeps : GoodIn wsX11_moveSlot (wsV RX11 204 RX11 yX11_keeps wsX11_keeps) := goodIn_app (goodIn_of _ (by decide +kernel)) ggX11_moveSlot_X11_keeps
set_option maxRecDepth 100000 in
theorem ggX11_moveSlot_X11_ofSlot : GoodIn wsX11_moveSlot wsX11_ofSlot := goodIn_r _ [21, 3, 29, 30, 31, 32, 33, 34, 35, 36, 37, 38, 39, 40, 41, 42, 43, 44, 45, 46, 47, 48, 49, 50, 51, 52, 53, 54, 55] rfl (by decide +kernel)
set_option maxRecDepth 100000 in
theorem gX11_moveSlot_X11_ofSlot : GoodIn wsX11_moveSlot (wsV RX11 314 RX11 yX11_ofSlot wsX11_ofSlot) := goodIn_app (goodIn_of _ (by decide +kernel)) ggX11_moveSlot_X11_ofSlot
set_option maxRecDepth 100000 in
theorem ggX11_moveSlot_X11_takesSlot : GoodIn wsX11_moveSlot wsX11_takesSlot := goodIn_r _ [25, 3, 29, 30, 31, 32, 33, 34, 35, 36, 37, 38, 39, 40, 41, 42, 43, 44, 45, 46, 47, 48, 49, 50, 51, 52, 53, 54, 55] rfl (by decide +kernel)
set_option maxRecDepth 100000 in
theorem gX11_moveSlot_X11_takesSlot : GoodIn wsX11_moveSlot (wsV RX11 311 RX11 yX11_takesSlot wsX11_takesSlot) := goodIn_app (goodIn_of _ (by decide +kernel)) ggX11_moveSlot_X11_takesSlot
set_option maxRecDepth 100000 in
theorem ggX11_moveSlot_X11_putsSlot : GoodIn wsX11_moveSlot wsX11_putsSlot := goodIn_r _ [28] rfl (by decide +kernel)
set_option maxRecDepth 100000 in
theorem gX11_moveSlot_X11_putsSlot : GoodIn wsX11_moveSlot (va_wsS RX11 183 yX11_putsSlot wsX11_putsSlot) := goodIn_app (goodIn_of _ (by decide +kernel)) ggX11_moveSlot_X11_putsSlot
theorem dX11_moveSlot_0 : decode cX11_moveSlot 0 = .ok (.aload_n 0, 1) := by decide +kernel
theorem dX11_moveSlot_1 : decode cX11_moveSlot 1 = .ok (.aload_n 0, 1) := by decide +kernel
theorem dX11_moveSlot_2 : decode cX11_moveSlot 2 = .ok (.iload_n 1, 1) := by decide +kernel
theorem dX11_moveSlot_3 : decode cX11_moveSlot 3 = .ok (.invokevirtual 308, 3) := by decide +kernel
theorem dX11_moveSlot_6 : decode cX11_moveSlot 6 = .ok (.ifCond .ne 7, 3) := by decide +kernel
theorem dX11_moveSlot_9 : decode cX11_moveSlot 9 = .ok (.iconst 1, 1) := by decide +kernel
theorem dX11_moveSlot_10 : decode cX11_moveSlot 10 = .ok (.goto 20, 3) := by decide +kernel
theorem dX11_moveSlot_13 : decode cX11_moveSlot 13 = .ok (.iload_n 2, 1) := by decide +kernel
theorem dX11_moveSlot_14 : decode cX11_moveSlot 14 = .ok (.i2l, 1) := by decide +kernel
theorem dX11_moveSlot_15 : decode cX11_moveSlot 15 = .ok (.lconst 0, 1) := by decide +kernel
theorem dX11_moveSlot_16 : decode cX11_moveSlot 16 = .ok (.ldc2_w 304, 3) := by decide +kernel
theorem dX11_moveSlot_19 : decode cX11_moveSlot 19 = .ok (.invokestatic 95, 3) := by decide +kernel
theorem dX11_moveSlot_22 : decode cX11_moveSlot 22 = .ok (.ifCond .eq 7, 3) := by decide +kernel
theorem dX11_moveSlot_25 : decode cX11_moveSlot 25 = .ok (.iconst 0, 1) := by decide +kernel
theorem dX11_moveSlot_26 : decode cX11_moveSlot 26 = .ok (.goto 4, 3) := by decide +kernel
theorem dX11_moveSlot_29 : decode cX11_moveSlot 29 = .ok (.iconst 2, 1) := by decide +kernel
theorem dX11_moveSlot_30 : decode cX11_moveSlot 30 = .ok (.putfield 79, 3) := by decide +kernel
theorem dX11_moveSlot_33 : decode cX11_moveSlot 33 = .ok (.aload_n 0, 1) := by decide +kernel
theorem dX11_moveSlot_34 : decode cX11_moveSlot 34 = .ok (.getfield 79, 3) := by decide +kernel
theorem dX11_moveSlot_37 : decode cX11_moveSlot 37 = .ok (.ifCond .le 5, 3) := by decide +kernel
theorem dX11_moveSlot_40 : decode cX11_moveSlot 40 = .ok (.iconst 0, 1) := by decide +kernel
theorem dX11_moveSlot_41 : decode cX11_moveSlot 41 = .ok (.ireturn, 1) := by decide +kernel
theorem dX11_moveSlot_42 : decode cX11_moveSlot 42 = .ok (.aload_n 0, 1) := by decide +kernel
theorem dX11_moveSlot_43 : decode cX11_moveSlot 43 = .ok (.invokevirtual 204, 3) := by decide +kernel
theorem dX11_moveSlot_46 : decode cX11_moveSlot 46 = .ok (.aload_n 0, 1) := by decide +kernel
theorem dX11_moveSlot_47 : decode cX11_moveSlot 47 = .ok (.iload_n 1, 1) := by decide +kernel
theorem dX11_moveSlot_48 : decode cX11_moveSlot 48 = .ok (.iconst 1, 1) := by decide +kernel
theorem dX11_moveSlot_49 : decode cX11_moveSlot 49 = .ok (.invokevirtual 314, 3) := by decide +kernel
theorem dX11_moveSlot_52 : decode cX11_moveSlot 52 = .ok (.istore_n 3, 1) := by decide +kernel
theorem dX11_moveSlot_53 : decode cX11_moveSlot 53 = .ok (.aload_n 0, 1) := by decide +kernel
theorem dX11_moveSlot_54 : decode cX11_moveSlot 54 = .ok (.iload_n 1, 1) := by decide +kernel
theorem dX11_moveSlot_55 : decode cX11_moveSlot 55 = .ok (.iconst 2, 1) := by decide +kernel
theorem dX11_moveSlot_56 : decode cX11_moveSlot 56 = .ok (.invokevirtual 314, 3) := by decide +kernel
theorem dX11_moveSlot_59 : decode cX11_moveSlot 59 = .ok (.istore 4, 2) := by decide +kernel
theorem dX11_moveSlot_61 : decode cX11_moveSlot 61 = .ok (.aload_n 0, 1) := by decide +kernel
theorem dX11_moveSlot_62 : decode cX11_moveSlot 62 = .ok (.iload_n 1, 1) := by decide +kernel
theorem dX11_moveSlot_63 : decode cX11_moveSlot 63 = .ok (.invokevirtual 311, 3) := by decide +kernel
theorem dX11_moveSlot_66 : decode cX11_moveSlot 66 = .ok (.aload_n 0, 1) := by decide +kernel
theorem dX11_moveSlot_67 : decode cX11_moveSlot 67 = .ok (.getfield 9, 3) := by decide +kernel
theorem dX11_moveSlot_70 : decode cX11_moveSlot 70 = .ok (.iload_n 2, 1) := by decide +kernel
theorem dX11_moveSlot_71 : decode cX11_moveSlot 71 = .ok (.iload_n 3, 1) := by decide +kernel
theorem dX11_moveSlot_72 : decode cX11_moveSlot 72 = .ok (.iload 4, 2) := by decide +kernel
theorem dX11_moveSlot_74 : decode cX11_moveSlot 74 = .ok (.invokestatic 183, 3) := by decide +kernel
theorem dX11_moveSlot_77 : decode cX11_moveSlot 77 = .ok (.ireturn, 1) := by decide +kernel
set_option maxRecDepth 100000 in
theorem ggX11_slot_X11_isSlot : GoodIn wsX11_slot wsX11_isSlot := goodIn_r _ [7, 8, 9, 10, 6, 11, 16, 17, 18, 19, 20, 21, 22, 23, 24, 25, 26, 27, 28, 29, 30, 31, 32, 33, 34, 35, 36, 37, 38, 39, 40, 41, 42] rfl (by decide +kernel)
set_option maxRecDepth 100000 in
theorem gX11_slot_X11_isSlot : GoodIn wsX11_slot (wsV RX11 308 RX11 yX11_isSlot wsX11_isSlot) := goodIn_app (goodIn_of _ (by decide +kernel)) ggX11_slot_X11_isSlot
set_option maxRecDepth 100000 in
theorem ggX11_slot_X11_isIn : GoodIn wsX11_slot wsX11_isIn := goodIn_r _ [11] rfl (by decide +kernel)
set_option maxRecDepth 100000 in
theorem gX11_slot_X11_isIn : GoodIn wsX11_slot (va_wsS RX11 95 yX11_isIn wsX11_isIn) := goodIn_app (goodIn_of _ (by decide +kernel)) ggX11_slot_X11_isIn
set_option maxRecDepth 100000 in
theorem ggX11_slot_X11_ofSlot : GoodIn wsX11_slot wsX11_ofSlot := goodIn_r _ [15, 8, 16, 17, 18, 19, 20, 21, 22, 23, 24, 25, 26, 27, 28, 29, 30, 31, 32, 33, 34, 35, 36, 37, 38, 39, 40, 41, 42] rfl (by decide +kernel)
set_option maxRecDepth 100000 in
theorem gX11_slot_X11_ofSlot : GoodIn wsX11_slot (wsV RX11 314 RX11 yX11_ofSlot wsX11_ofSlot) := goodIn_app (goodIn_of _ (by decide +kernel)) ggX11_slot_X11_ofSlot
theorem dX11_slot_0 : decode cX11_slot 0 = .ok (.aload_n 0, 1) := by decide +kernel
theorem dX11_slot_1 : decode cX11_slot 1 = .ok (.aload_n 0, 1) := by decide +kernel
theorem dX11_slot_2 : decode cX11_slot 2 = .ok (.iload_n 1, 1) := by decide +kernel
theorem dX11_slot_3 : decode cX11_slot 3 = .ok (.invokevirtual 308, 3) := by decide +kernel
theorem dX11_slot_6 : decode cX11_slot 6 = .ok (.ifCond .ne 7, 3) := by decide +kernel
theorem dX11_slot_9 : decode cX11_slot 9 = .ok (.iconst 1, 1) := by decide +kernel
theorem dX11_slot_10 : decode cX11_slot 10 = .ok (.goto 20, 3) := by decide +kernel
theorem dX11_slot_13 : decode cX11_slot 13 = .ok (.iload_n 2, 1) := by decide +kernel
theorem dX11_slot_14 : decode cX11_slot 14 = .ok (.i2l, 1) := by decide +kernel
theorem dX11_slot_15 : decode cX11_slot 15 = .ok (.lconst 0, 1) := by decide +kernel
theorem dX11_slot_16 : decode cX11_slot 16 = .ok (.ldc2_w 71, 3) := by decide +kernel
theorem dX11_slot_19 : decode cX11_slot 19 = .ok (.invokestatic 95, 3) := by decide +kernel
theorem dX11_slot_22 : decode cX11_slot 22 = .ok (.ifCond .eq 7, 3) := by decide +kernel
theorem dX11_slot_25 : decode cX11_slot 25 = .ok (.iconst 0, 1) := by decide +kernel
theorem dX11_slot_26 : decode cX11_slot 26 = .ok (.goto 4, 3) := by decide +kernel
theorem dX11_slot_29 : decode cX11_slot 29 = .ok (.iconst 2, 1) := by decide +kernel
theorem dX11_slot_30 : decode cX11_slot 30 = .ok (.putfield 79, 3) := by decide +kernel
theorem dX11_slot_33 : decode cX11_slot 33 = .ok (.aload_n 0, 1) := by decide +kernel
theorem dX11_slot_34 : decode cX11_slot 34 = .ok (.getfield 79, 3) := by decide +kernel
theorem dX11_slot_37 : decode cX11_slot 37 = .ok (.ifCond .le 7, 3) := by decide +kernel
theorem dX11_slot_40 : decode cX11_slot 40 = .ok (.iconst 0, 1) := by decide +kernel
theorem dX11_slot_41 : decode cX11_slot 41 = .ok (.goto 9, 3) := by decide +kernel
theorem dX11_slot_44 : decode cX11_slot 44 = .ok (.aload_n 0, 1) := by decide +kernel
theorem dX11_slot_45 : decode cX11_slot 45 = .ok (.iload_n 1, 1) := by decide +kernel
theorem dX11_slot_46 : decode cX11_slot 46 = .ok (.iload_n 2, 1) := by decide +kernel
theorem dX11_slot_47 : decode cX11_slot 47 = .ok (.invokevirtual 314, 3) := by decide +kernel
theorem dX11_slot_50 : decode cX11_slot 50 = .ok (.ireturn, 1) := by decide +kernel
set_option maxRecDepth 100000 in
theorem ggX11_laysCuts_X11_hasBest : GoodIn wsX11_laysCuts wsX11_hasBest := goodIn_r _ [8, 9, 10, 11, 12, 13, 7, 14, 15, 16, 17, 18, 19, 20, 21, 22, 23, 24, 25, 26, 27, 28, 29, 30, 31, 32, 33, 34, 35, 36, 37, 38, 39, 40, 41, 42, 43, 44, 45, 46, 47, 48, 49, 50, 51, 52, 53, 54, 2, 3, 59, 60, 61, 62, 63, 64, 65, 66, 67, 68, 69, 70, 71, 72, 73, 74, 75, 76, 77, 78, 79, 80, 81, 82, 83, 84, 85] rfl (by decide +kernel)
set_option maxRecDepth 100000 in
theorem gX11_laysCuts_X11_hasBest : GoodIn wsX11_laysCuts (wsV RX11 273 RX11 yX11_hasBest wsX11_hasBest) := goodIn_app (goodIn_of _ (by decide +kernel)) ggX11_laysCuts_X11_hasBest
set_option maxRecDepth 100000 in
theorem ggX11_laysCuts_X11_beginOf : GoodIn wsX11_laysCuts wsX11_beginOf := goodIn_r _ [58, 3, 59, 60, 61, 62, 63, 64, 65, 66, 67, 68, 69, 70, 71, 72, 73, 74, 75, 76, 77, 78, 79, 80, 81, 82, 83, 84, 85] rfl (by decide +kernel)
set_option maxRecDepth 100000 in
theorem gX11_laysCuts_X11_beginOf : GoodIn wsX11_laysCuts (wsV RX11 280 RX11 yX11_beginOf wsX11_beginOf) := goodIn_app (goodIn_of _ (by decide +kernel)) ggX11_laysCuts_X11_beginOf
theorem dX11_laysCuts_0 : decode cX11_laysCuts 0 = .ok (.iconst 0, 1) := by decide +kernel
theorem dX11_laysCuts_1 : decode cX11_laysCuts 1 = .ok (.istore_n 1, 1) := by decide +kernel
theorem dX11_laysCuts_2 : decode cX11_laysCuts 2 = .ok (.iload_n 1, 1) := by decide +kernel
theorem dX11_laysCuts_3 : decode cX11_laysCuts 3 = .ok (.bipush 32, 2) := by decide +kernel
theorem dX11_laysCuts_5 : decode cX11_laysCuts 5 = .ok (.if_icmp .ge 16, 3) := by decide +kernel
theorem dX11_laysCuts_8 : decode cX11_laysCuts 8 = .ok (.aload_n 0, 1) := by decide +kernel
theorem dX11_laysCuts_9 : decode cX11_laysCuts 9 = .ok (.getfield 54, 3) := by decide +kernel
theorem dX11_laysCuts_12 : decode cX11_laysCuts 12 = .ok (.iload_n 1, 1) := by decide +kernel
theorem dX11_laysCuts_13 : decode cX11_laysCuts 13 = .ok (.iconst 0, 1) := by decide +kernel
theorem dX11_laysCuts_14 : decode cX11_laysCuts 14 = .ok (.bastore, 1) := by decide +kernel
theorem dX11_laysCuts_15 : decode cX11_laysCuts 15 = .ok (.iinc 1 1, 3) := by decide +kernel
theorem dX11_laysCuts_18 : decode cX11_laysCuts 18 = .ok (.goto (-16), 3) := by decide +kernel
theorem dX11_laysCuts_21 : decode cX11_laysCuts 21 = .ok (.aload_n 0, 1) := by decide +kernel
theorem dX11_laysCuts_22 : decode cX11_laysCuts 22 = .ok (.invokevirtual 273, 3) := by decide +kernel
theorem dX11_laysCuts_25 : decode cX11_laysCuts 25 = .ok (.ifCond .ne 4, 3) := by decide +kernel
theorem dX11_laysCuts_28 : decode cX11_laysCuts 28 = .ok (.return_, 1) := by decide +kernel
theorem dX11_laysCuts_29 : decode cX11_laysCuts 29 = .ok (.iconst 0, 1) := by decide +kernel
theorem dX11_laysCuts_30 : decode cX11_laysCuts 30 = .ok (.istore_n 1, 1) := by decide +kernel
theorem dX11_laysCuts_31 : decode cX11_laysCuts 31 = .ok (.iload_n 1, 1) := by decide +kernel
theorem dX11_laysCuts_32 : decode cX11_laysCuts 32 = .ok (.aload_n 0, 1) := by decide +kernel
theorem dX11_laysCuts_33 : decode cX11_laysCuts 33 = .ok (.getfield 30, 3) := by decide +kernel
theorem dX11_laysCuts_36 : decode cX11_laysCuts 36 = .ok (.iconst 0, 1) := by decide +kernel
theorem dX11_laysCuts_37 : decode cX11_laysCuts 37 = .ok (.iaload, 1) := by decide +kernel
theorem dX11_laysCuts_38 : decode cX11_laysCuts 38 = .ok (.if_icmp .ge 25, 3) := by decide +kernel
theorem dX11_laysCuts_41 : decode cX11_laysCuts 41 = .ok (.aload_n 0, 1) := by decide +kernel
theorem dX11_laysCuts_42 : decode cX11_laysCuts 42 = .ok (.getfield 54, 3) := by decide +kernel
theorem dX11_laysCuts_45 : decode cX11_laysCuts 45 = .ok (.aload_n 0, 1) := by decide +kernel
theorem dX11_laysCuts_46 : decode cX11_laysCuts 46 = .ok (.getfield 33, 3) := by decide +kernel
theorem dX11_laysCuts_49 : decode cX11_laysCuts 49 = .ok (.aload_n 0, 1) := by decide +kernel
theorem dX11_laysCuts_50 : decode cX11_laysCuts 50 = .ok (.iload_n 1, 1) := by decide +kernel
theorem dX11_laysCuts_51 : decode cX11_laysCuts 51 = .ok (.invokevirtual 280, 3) := by decide +kernel
theorem dX11_laysCuts_54 : decode cX11_laysCuts 54 = .ok (.iaload, 1) := by decide +kernel
theorem dX11_laysCuts_55 : decode cX11_laysCuts 55 = .ok (.iconst 1, 1) := by decide +kernel
theorem dX11_laysCuts_56 : decode cX11_laysCuts 56 = .ok (.bastore, 1) := by decide +kernel
theorem dX11_laysCuts_57 : decode cX11_laysCuts 57 = .ok (.iinc 1 1, 3) := by decide +kernel
theorem dX11_laysCuts_60 : decode cX11_laysCuts 60 = .ok (.goto (-29), 3) := by decide +kernel
theorem dX11_laysCuts_63 : decode cX11_laysCuts 63 = .ok (.return_, 1) := by decide +kernel
set_option maxRecDepth 100000 in
theorem ggX11_away_X11_spoken : GoodIn wsX11_away wsX11_spoken := goodIn_r _ [5, 6, 7, 8, 4, 9, 10, 15, 16, 17, 18, 19, 20, 21, 22, 23, 24, 25, 26, 27, 28, 29, 30, 31, 32, 33, 34, 35, 36, 37, 38, 39, 40, 41] rfl (by decide +kernel)
set_option maxRecDepth 100000 in
theorem gX11_away_X11_spoken : GoodIn wsX11_away (wsV RX11 216 RX11 yX11_spoken wsX11_spoken) := goodIn_app (goodIn_of _ (by decide +kernel)) ggX11_away_X11_spoken
set_option maxRecDepth 100000 in
theorem ggX11_away_X11_ofSlot : GoodIn wsX11_away wsX11_ofSlot := goodIn_r _ [14, 10, 15, 16, 17, 18, 19, 20, 21, 22, 23, 24, 25, 26, 27, 28, 29, 30, 31, 32, 33, 34, 35, 36, 37, 38, 39, 40, 41] rfl (by decide +kernel)
set_option maxRecDepth 100000 in
theorem gX11_away_X11_ofSlot : GoodIn wsX11_away (wsV RX11 314 RX11 yX11_ofSlot wsX11_ofSlot) := goodIn_app (goodIn_of _ (by decide +kernel)) ggX11_away_X11_ofSlot
theorem dX11_away_0 : decode cX11_away 0 = .ok (.aload_n 0, 1) := by decide +kernel
theorem dX11_away_1 : decode cX11_away 1 = .ok (.iload_n 2, 1) := by decide +kernel
theorem dX11_away_2 : decode cX11_away 2 = .ok (.iconst 1, 1) := by decide +kernel
theorem dX11_away_3 : decode cX11_away 3 = .ok (.iadd, 1) := by decide +kernel
theorem dX11_away_4 : decode cX11_away 4 = .ok (.invokevirtual 216, 3) := by decide +kernel
theorem dX11_away_7 : decode cX11_away 7 = .ok (.aload_n 0, 1) := by decide +kernel
theorem dX11_away_8 : decode cX11_away 8 = .ok (.iload_n 1, 1) := by decide +kernel
theorem dX11_away_9 : decode cX11_away 9 = .ok (.iconst 0, 1) := by decide +kernel
theorem dX11_away_10 : decode cX11_away 10 = .ok (.invokevirtual 314, 3) := by decide +kernel
theorem dX11_away_13 : decode cX11_away 13 = .ok (.isub, 1) := by decide +kernel
theorem dX11_away_14 : decode cX11_away 14 = .ok (.istore_n 3, 1) := by decide +kernel
theorem dX11_away_15 : decode cX11_away 15 = .ok (.iload_n 3, 1) := by decide +kernel
theorem dX11_away_16 : decode cX11_away 16 = .ok (.ifCond .ge 8, 3) := by decide +kernel
theorem dX11_away_19 : decode cX11_away 19 = .ok (.iload_n 3, 1) := by decide +kernel
theorem dX11_away_20 : decode cX11_away 20 = .ok (.ineg, 1) := by decide +kernel
theorem dX11_away_21 : decode cX11_away 21 = .ok (.goto 4, 3) := by decide +kernel
theorem dX11_away_24 : decode cX11_away 24 = .ok (.iload_n 3, 1) := by decide +kernel
theorem dX11_away_25 : decode cX11_away 25 = .ok (.ireturn, 1) := by decide +kernel
set_option maxRecDepth 100000 in
theorem ggX11_mayHave_X11_isLong : GoodIn wsX11_mayHave wsX11_isLong := goodIn_r _ [5, 6, 7, 8, 9, 4, 10, 23, 24, 25, 26, 27, 28, 29, 30, 31, 32, 33, 34, 35, 36, 37, 38, 39, 40, 41, 42, 43, 44, 45, 46, 47, 48, 49] rfl (by decide +kernel)
set_option maxRecDepth 100000 in
theorem gX11_mayHave_X11_isLong : GoodIn wsX11_mayHave (wsV RX11 213 RX11 yX11_isLong wsX11_isLong) := goodIn_app (goodIn_of _ (by decide +kernel)) ggX11_mayHave_X11_isLong
set_option maxRecDepth 100000 in
theorem ggX11_mayHave_X11_away : GoodIn wsX11_mayHave wsX11_away := goodIn_r _ [14, 15, 16, 17, 4, 18, 7, 8, 9, 10, 6, 19, 20, 21, 22, 23, 24, 25, 26, 27, 28, 29, 30, 31, 32, 33, 34, 35, 36, 37, 38, 39, 40, 41, 42, 43, 44, 45, 46, 47, 48, 49] rfl (by decide +kernel)
set_option maxRecDepth 100000 in
theorem gX11_mayHave_X11_away : GoodIn wsX11_mayHave (wsV RX11 317 RX11 yX11_away wsX11_away) := goodIn_app (goodIn_of _ (by decide +kernel)) ggX11_mayHave_X11_away
set_option maxRecDepth 100000 in
theorem ggX11_mayHave_X11_ofSlot : GoodIn wsX11_mayHave wsX11_ofSlot := goodIn_r _ [22, 6, 23, 24, 25, 26, 27, 28, 29, 30, 31, 32, 33, 34, 35, 36, 37, 38, 39, 40, 41, 42, 43, 44, 45, 46, 47, 48, 49] rfl (by decide +kernel)
set_option maxRecDepth 100000 in
theorem gX11_mayHave_X11_ofSlot : GoodIn wsX11_mayHave (wsV RX11 314 RX11 yX11_ofSlot wsX11_ofSlot) := goodIn_app (goodIn_of _ (by decide +kernel)) ggX11_mayHave_X11_ofSlot
theorem dX11_mayHave_0 : decode cX11_mayHave 0 = .ok (.aload_n 0, 1) := by decide +kernel
theorem dX11_mayHave_1 : decode cX11_mayHave 1 = .ok (.iload_n 2, 1) := by decide +kernel
theorem dX11_mayHave_2 : decode cX11_mayHave 2 = .ok (.invokevirtual 213, 3) := by decide +kernel
theorem dX11_mayHave_5 : decode cX11_mayHave 5 = .ok (.ifCond .eq 22, 3) := by decide +kernel
theorem dX11_mayHave_8 : decode cX11_mayHave 8 = .ok (.aload_n 0, 1) := by decide +kernel
theorem dX11_mayHave_9 : decode cX11_mayHave 9 = .ok (.iload_n 1, 1) := by decide +kernel
theorem dX11_mayHave_10 : decode cX11_mayHave 10 = .ok (.iload_n 2, 1) := by decide +kernel
theorem dX11_mayHave_11 : decode cX11_mayHave 11 = .ok (.invokevirtual 317, 3) := by decide +kernel
theorem dX11_mayHave_14 : decode cX11_mayHave 14 = .ok (.aload_n 0, 1) := by decide +kernel
theorem dX11_mayHave_15 : decode cX11_mayHave 15 = .ok (.iload_n 1, 1) := by decide +kernel
theorem dX11_mayHave_16 : decode cX11_mayHave 16 = .ok (.iconst 2, 1) := by decide +kernel
theorem dX11_mayHave_17 : decode cX11_mayHave 17 = .ok (.invokevirtual 314, 3) := by decide +kernel
theorem dX11_mayHave_20 : decode cX11_mayHave 20 = .ok (.if_icmp .gt 7, 3) := by decide +kernel
theorem dX11_mayHave_23 : decode cX11_mayHave 23 = .ok (.iconst 1, 1) := by decide +kernel
theorem dX11_mayHave_24 : decode cX11_mayHave 24 = .ok (.goto 4, 3) := by decide +kernel
theorem dX11_mayHave_27 : decode cX11_mayHave 27 = .ok (.iconst 0, 1) := by decide +kernel
theorem dX11_mayHave_28 : decode cX11_mayHave 28 = .ok (.ireturn, 1) := by decide +kernel
set_option maxRecDepth 100000 in
theorem ggX11_bestFrom_X11_many : GoodIn wsX11_bestFrom wsX11_many := goodIn_r _ [7, 8, 17, 18, 19, 20, 21, 22, 23, 24, 25, 26, 27, 28, 29, 30, 31, 32, 33, 34, 35, 36, 37, 38, 39, 40, 41, 42, 43] rfl (by decide +kernel)
set_option maxRecDepth 100000 in
theorem gX11_bestFrom_X11_many : GoodIn wsX11_bestFrom (wsV RX11 207 RX11 yX11_many wsX11_many) := goodIn_app (goodIn_of _ (by decide +kernel)) ggX11_bestFrom_X11_many
set_option maxRecDepth 100000 in
theorem ggX11_bestFrom_X11_spoken : GoodIn wsX11_bestFrom wsX11_spoken := goodIn_r _ [12, 13, 14, 15, 6, 16, 8, 17, 18, 19, 20, 21, 22, 23, 24, 25, 26, 27, 28, 29, 30, 31, 32, 33, 34, 35, 36, 37, 38, 39, 40, 41, 42, 43] rfl (by decide +kernel)
set_option maxRecDepth 100000 in
theorem gX11_bestFrom_X11_spoken : GoodIn wsX11_bestFrom (wsV RX11 216 RX11 yX11_spoken wsX11_spoken) := goodIn_app (goodIn_of _ (by decide +kernel)) ggX11_bestFrom_X11_spoken
theorem dX11_bestFrom_0 : decode cX11_bestFrom 0 = .ok (.iconst (-1), 1) := by decide +kernel
theorem dX11_bestFrom_1 : decode cX11_bestFrom 1 = .ok (.istore 4, 2) := by decide +kernel
theorem dX11_bestFrom_3 : decode cX11_bestFrom 3 = .ok (.iload_n 2, 1) := by decide +kernel
theorem dX11_bestFrom_4 : decode cX11_bestFrom 4 = .ok (.istore 5, 2) := by decide +kernel
theorem dX11_bestFrom_6 : decode cX11_bestFrom 6 = .ok (.iload 5, 2) := by decide +kernel
theorem dX11_bestFrom_8 : decode cX11_bestFrom 8 = .ok (.aload_n 0, 1) := by decide +kernel
theorem dX11_bestFrom_9 : decode cX11_bestFrom 9 = .ok (.invokevirtual 207, 3) := by decide +kernel
theorem dX11_bestFrom_12 : decode cX11_bestFrom 12 = .ok (.iconst 1, 1) := by decide +kernel
theorem dX11_bestFrom_13 : decode cX11_bestFrom 13 = .ok (.isub, 1) := by decide +kernel
theorem dX11_bestFrom_14 : decode cX11_bestFrom 14 = .ok (.if_icmp .ge 79, 3) := by decide +kernel
theorem dX11_bestFrom_17 : decode cX11_bestFrom 17 = .ok (.aload_n 0, 1) := by decide +kernel
theorem dX11_bestFrom_18 : decode cX11_bestFrom 18 = .ok (.getfield 48, 3) := by decide +kernel
theorem dX11_bestFrom_21 : decode cX11_bestFrom 21 = .ok (.bipush 32, 2) := by decide +kernel
theorem dX11_bestFrom_23 : decode cX11_bestFrom 23 = .ok (.iload_n 1, 1) := by decide +kernel
theorem dX11_bestFrom_24 : decode cX11_bestFrom 24 = .ok (.imul, 1) := by decide +kernel
theorem dX11_bestFrom_25 : decode cX11_bestFrom 25 = .ok (.iload 5, 2) := by decide +kernel
theorem dX11_bestFrom_27 : decode cX11_bestFrom 27 = .ok (.iadd, 1) := by decide +kernel
theorem dX11_bestFrom_28 : decode cX11_bestFrom 28 = .ok (.iaload, 1) := by decide +kernel
theorem dX11_bestFrom_29 : decode cX11_bestFrom 29 = .ok (.ldc_w 320, 3) := by decide +kernel
theorem dX11_bestFrom_32 : decode cX11_bestFrom 32 = .ok (.if_icmp .eq 55, 3) := by decide +kernel
theorem dX11_bestFrom_35 : decode cX11_bestFrom 35 = .ok (.aload_n 0, 1) := by decide +kernel
theorem dX11_bestFrom_36 : decode cX11_bestFrom 36 = .ok (.iload 5, 2) := by decide +kernel
theorem dX11_bestFrom_38 : decode cX11_bestFrom 38 = .ok (.iconst 1, 1) := by decide +kernel
theorem dX11_bestFrom_39 : decode cX11_bestFrom 39 = .ok (.iadd, 1) := by decide +kernel
theorem dX11_bestFrom_40 : decode cX11_bestFrom 40 = .ok (.invokevirtual 216, 3) := by decide +kernel
theorem dX11_bestFrom_43 : decode cX11_bestFrom 43 = .ok (.iload_n 3, 1) := by decide +kernel
theorem dX11_bestFrom_44 : decode cX11_bestFrom 44 = .ok (.if_icmp .ge 6, 3) := by decide +kernel
theorem dX11_bestFrom_47 : decode cX11_bestFrom 47 = .ok (.goto 40, 3) := by decide +kernel
theorem dX11_bestFrom_50 : decode cX11_bestFrom 50 = .ok (.iload 4, 2) := by decide +kernel
theorem dX11_bestFrom_52 : decode cX11_bestFrom 52 = .ok (.iconst (-1), 1) := by decide +kernel
theorem dX11_bestFrom_53 : decode cX11_bestFrom 53 = .ok (.if_icmp .eq 30, 3) := by decide +kernel
theorem dX11_bestFrom_56 : decode cX11_bestFrom 56 = .ok (.aload_n 0, 1) := by decide +kernel
theorem dX11_bestFrom_57 : decode cX11_bestFrom 57 = .ok (.getfield 48, 3) := by decide +kernel
theorem dX11_bestFrom_60 : decode cX11_bestFrom 60 = .ok (.bipush 32, 2) := by decide +kernel
theorem dX11_bestFrom_62 : decode cX11_bestFrom 62 = .ok (.iload_n 1, 1) := by decide +kernel
theorem dX11_bestFrom_63 : decode cX11_bestFrom 63 = .ok (.imul, 1) := by decide +kernel
theorem dX11_bestFrom_64 : decode cX11_bestFrom 64 = .ok (.iload 5, 2) := by decide +kernel
theorem dX11_bestFrom_66 : decode cX11_bestFrom 66 = .ok (.iadd, 1) := by decide +kernel
theorem dX11_bestFrom_67 : decode cX11_bestFrom 67 = .ok (.iaload, 1) := by decide +kernel
theorem dX11_bestFrom_68 : decode cX11_bestFrom 68 = .ok (.aload_n 0, 1) := by decide +kernel
theorem dX11_bestFrom_69 : decode cX11_bestFrom 69 = .ok (.getfield 48, 3) := by decide +kernel
theorem dX11_bestFrom_72 : decode cX11_bestFrom 72 = .ok (.bipush 32, 2) := by decide +kernel
theorem dX11_bestFrom_74 : decode cX11_bestFrom 74 = .ok (.iload_n 1, 1) := by decide +kernel
theorem dX11_bestFrom_75 : decode cX11_bestFrom 75 = .ok (.imul, 1) := by decide +kernel
theorem dX11_bestFrom_76 : decode cX11_bestFrom 76 = .ok (.iload 4, 2) := by decide +kernel
theorem dX11_bestFrom_78 : decode cX11_bestFrom 78 = .ok (.iadd, 1) := by decide +kernel
theorem dX11_bestFrom_79 : decode cX11_bestFrom 79 = .ok (.iaload, 1) := by decide +kernel
theorem dX11_bestFrom_80 : decode cX11_bestFrom 80 = .ok (.if_icmp .ge 7, 3) := by decide +kernel
theorem dX11_bestFrom_83 : decode cX11_bestFrom 83 = .ok (.iload 5, 2) := by decide +kernel
theorem dX11_bestFrom_85 : decode cX11_bestFrom 85 = .ok (.istore 4, 2) := by decide +kernel
theorem dX11_bestFrom_87 : decode cX11_bestFrom 87 = .ok (.iinc 5 1, 3) := by decide +kernel
theorem dX11_bestFrom_90 : decode cX11_bestFrom 90 = .ok (.goto (-84), 3) := by decide +kernel
theorem dX11_bestFrom_93 : decode cX11_bestFrom 93 = .ok (.iload 4, 2) := by decide +kernel
theorem dX11_bestFrom_95 : decode cX11_bestFrom 95 = .ok (.ireturn, 1) := by decide +kernel
set_option maxRecDepth 100000 in
theorem ggX11_costOf_X11_mayHave : GoodIn wsX11_costOf wsX11_mayHave := goodIn_r _ [9, 10, 11, 12, 8, 13, 3, 14, 15, 16, 17, 18, 19, 20, 21, 22, 23, 24, 25, 26, 27, 28, 29, 38, 39, 40, 41, 42, 43, 44, 45, 46, 47, 48, 49, 50, 51, 52, 53, 54, 55, 56, 57, 58, 59, 60, 61, 62, 63, 64] rfl (by decide +kernel)
set_option maxRecDepth 100000 in
theorem gX11_costOf_X11_mayHave : GoodIn wsX11_costOf (wsV RX11 321 RX11 yX11_mayHave wsX11_mayHave) := goodIn_app (goodIn_of _ (by decide +kernel)) ggX11_costOf_X11_mayHave
set_option maxRecDepth 100000 in
theorem ggX11_costOf_X11_away : GoodIn wsX11_costOf wsX11_away := goodIn_r _ [21, 22, 23, 24, 8, 25, 14, 15, 16, 17, 3, 26, 27, 28, 29, 38, 39, 40, 41, 42, 43, 44, 45, 46, 47, 48, 49, 50, 51, 52, 53, 54, 55, 56, 57, 58, 59, 60, 61, 62, 63, 64] rfl (by decide +kernel)
set_option maxRecDepth 100000 in
theorem gX11_costOf_X11_away : GoodIn wsX11_costOf (wsV RX11 317 RX11 yX11_away wsX11_away) := goodIn_app (goodIn_of _ (by decide +kernel)) ggX11_costOf_X11_away
set_option maxRecDepth 100000 in
theorem ggX11_costOf_X11_spoken : GoodIn wsX11_costOf wsX11_spoken := goodIn_r _ [25, 14, 15, 16, 8, 17, 3, 38, 39, 40, 41, 42, 43, 44, 45, 46, 47, 48, 49, 50, 51, 52, 53, 54, 55, 56, 57, 58, 59, 60, 61, 62, 63, 64] rfl (by decide +kernel)
set_option maxRecDepth 100000 in
theorem gX11_costOf_X11_spoken : GoodIn wsX11_costOf (wsV RX11 216 RX11 yX11_spoken wsX11_spoken) := goodIn_app (goodIn_of _ (by decide +kernel)) ggX11_costOf_X11_spoken
set_option maxRecDepth 100000 in
theorem ggX11_costOf_X11_bestFrom : GoodIn wsX11_costOf wsX11_bestFrom := goodIn_r _ [33, 4, 1, 34, 35, 36, 8, 37, 3, 22, 23, 24, 25, 14, 15, 16, 17, 38, 39, 40, 41, 42, 43, 44, 45, 46, 47, 48, 49, 50, 51, 52, 53, 54, 55, 56, 57, 58, 59, 60, 61, 62, 63, 64] rfl (by decide +kernel)
set_option maxRecDepth 100000 in
theorem gX11_costOf_X11_bestFrom : GoodIn wsX11_costOf (wsV RX11 324 RX11 yX11_bestFrom wsX11_bestFrom) := goodIn_app (goodIn_of _ (by decide +kernel)) ggX11_costOf_X11_bestFrom
theorem dX11_costOf_0 : decode cX11_costOf 0 = .ok (.aload_n 0, 1) := by decide +kernel
theorem dX11_costOf_1 : decode cX11_costOf 1 = .ok (.iload_n 1, 1) := by decide +kernel
theorem dX11_costOf_2 : decode cX11_costOf 2 = .ok (.iload_n 2, 1) := by decide +kernel
theorem dX11_costOf_3 : decode cX11_costOf 3 = .ok (.invokevirtual 321, 3) := by decide +kernel
theorem dX11_costOf_6 : decode cX11_costOf 6 = .ok (.ifCond .ne 7, 3) := by decide +kernel
theorem dX11_costOf_9 : decode cX11_costOf 9 = .ok (.ldc_w 320, 3) := by decide +kernel
theorem dX11_costOf_12 : decode cX11_costOf 12 = .ok (.ireturn, 1) := by decide +kernel
theorem dX11_costOf_13 : decode cX11_costOf 13 = .ok (.aload_n 0, 1) := by decide +kernel
theorem dX11_costOf_14 : decode cX11_costOf 14 = .ok (.iload_n 1, 1) := by decide +kernel
theorem dX11_costOf_15 : decode cX11_costOf 15 = .ok (.iload_n 2, 1) := by decide +kernel
theorem dX11_costOf_16 : decode cX11_costOf 16 = .ok (.invokevirtual 317, 3) := by decide +kernel
theorem dX11_costOf_19 : decode cX11_costOf 19 = .ok (.aload_n 0, 1) := by decide +kernel
theorem dX11_costOf_20 : decode cX11_costOf 20 = .ok (.getfield 54, 3) := by decide +kernel
theorem dX11_costOf_23 : decode cX11_costOf 23 = .ok (.iload_n 2, 1) := by decide +kernel
theorem dX11_costOf_24 : decode cX11_costOf 24 = .ok (.baload, 1) := by decide +kernel
theorem dX11_costOf_25 : decode cX11_costOf 25 = .ok (.ifCond .eq 7, 3) := by decide +kernel
theorem dX11_costOf_28 : decode cX11_costOf 28 = .ok (.iconst 0, 1) := by decide +kernel
theorem dX11_costOf_29 : decode cX11_costOf 29 = .ok (.goto 5, 3) := by decide +kernel
theorem dX11_costOf_32 : decode cX11_costOf 32 = .ok (.bipush 20, 2) := by decide +kernel
theorem dX11_costOf_34 : decode cX11_costOf 34 = .ok (.iadd, 1) := by decide +kernel
theorem dX11_costOf_35 : decode cX11_costOf 35 = .ok (.istore_n 3, 1) := by decide +kernel
theorem dX11_costOf_36 : decode cX11_costOf 36 = .ok (.iload_n 1, 1) := by decide +kernel
theorem dX11_costOf_37 : decode cX11_costOf 37 = .ok (.i2l, 1) := by decide +kernel
theorem dX11_costOf_38 : decode cX11_costOf 38 = .ok (.aload_n 0, 1) := by decide +kernel
theorem dX11_costOf_39 : decode cX11_costOf 39 = .ok (.getfield 9, 3) := by decide +kernel
theorem dX11_costOf_42 : decode cX11_costOf 42 = .ok (.bipush 8, 2) := by decide +kernel
theorem dX11_costOf_44 : decode cX11_costOf 44 = .ok (.laload, 1) := by decide +kernel
theorem dX11_costOf_45 : decode cX11_costOf 45 = .ok (.lconst 1, 1) := by decide +kernel
theorem dX11_costOf_46 : decode cX11_costOf 46 = .ok (.lsub, 1) := by decide +kernel
theorem dX11_costOf_47 : decode cX11_costOf 47 = .ok (.lcmp, 1) := by decide +kernel
theorem dX11_costOf_48 : decode cX11_costOf 48 = .ok (.ifCond .ne 5, 3) := by decide +kernel
theorem dX11_costOf_51 : decode cX11_costOf 51 = .ok (.iload_n 3, 1) := by decide +kernel
theorem dX11_costOf_52 : decode cX11_costOf 52 = .ok (.ireturn, 1) := by decide +kernel
theorem dX11_costOf_53 : decode cX11_costOf 53 = .ok (.aload_n 0, 1) := by decide +kernel
theorem dX11_costOf_54 : decode cX11_costOf 54 = .ok (.iload_n 1, 1) := by decide +kernel
theorem dX11_costOf_55 : decode cX11_costOf 55 = .ok (.iconst 1, 1) := by decide +kernel
theorem dX11_costOf_56 : decode cX11_costOf 56 = .ok (.iadd, 1) := by decide +kernel
theorem dX11_costOf_57 : decode cX11_costOf 57 = .ok (.iload_n 2, 1) := by decide +kernel
theorem dX11_costOf_58 : decode cX11_costOf 58 = .ok (.iconst 1, 1) := by decide +kernel
theorem dX11_costOf_59 : decode cX11_costOf 59 = .ok (.iadd, 1) := by decide +kernel
theorem dX11_costOf_60 : decode cX11_costOf 60 = .ok (.aload_n 0, 1) := by decide +kernel
theorem dX11_costOf_61 : decode cX11_costOf 61 = .ok (.iload_n 2, 1) := by decide +kernel
theorem dX11_costOf_62 : decode cX11_costOf 62 = .ok (.iconst 1, 1) := by decide +kernel
theorem dX11_costOf_63 : decode cX11_costOf 63 = .ok (.iadd, 1) := by decide +kernel
theorem dX11_costOf_64 : decode cX11_costOf 64 = .ok (.invokevirtual 216, 3) := by decide +kernel
theorem dX11_costOf_67 : decode cX11_costOf 67 = .ok (.aload_n 0, 1) := by decide +kernel
theorem dX11_costOf_68 : decode cX11_costOf 68 = .ok (.getfield 9, 3) := by decide +kernel
theorem dX11_costOf_71 : decode cX11_costOf 71 = .ok (.iconst 5, 1) := by decide +kernel
theorem dX11_costOf_72 : decode cX11_costOf 72 = .ok (.laload, 1) := by decide +kernel
theorem dX11_costOf_73 : decode cX11_costOf 73 = .ok (.l2i, 1) := by decide +kernel
theorem dX11_costOf_74 : decode cX11_costOf 74 = .ok (.iadd, 1) := by decide +kernel
theorem dX11_costOf_75 : decode cX11_costOf 75 = .ok (.invokevirtual 324, 3) := by decide +kernel
theorem dX11_costOf_78 : decode cX11_costOf 78 = .ok (.istore 4, 2) := by decide +kernel
theorem dX11_costOf_80 : decode cX11_costOf 80 = .ok (.iload 4, 2) := by decide +kernel
theorem dX11_costOf_82 : decode cX11_costOf 82 = .ok (.iconst (-1), 1) := by decide +kernel
theorem dX11_costOf_83 : decode cX11_costOf 83 = .ok (.if_icmp .ne 9, 3) := by decide +kernel
theorem dX11_costOf_86 : decode cX11_costOf 86 = .ok (.ldc_w 320, 3) := by decide +kernel
theorem dX11_costOf_89 : decode cX11_costOf 89 = .ok (.goto 19, 3) := by decide +kernel
theorem dX11_costOf_92 : decode cX11_costOf 92 = .ok (.iload_n 3, 1) := by decide +kernel
theorem dX11_costOf_93 : decode cX11_costOf 93 = .ok (.aload_n 0, 1) := by decide +kernel
theorem dX11_costOf_94 : decode cX11_costOf 94 = .ok (.getfield 48, 3) := by decide +kernel
theorem dX11_costOf_97 : decode cX11_costOf 97 = .ok (.bipush 32, 2) := by decide +kernel
theorem dX11_costOf_99 : decode cX11_costOf 99 = .ok (.iload_n 1, 1) := by decide +kernel
theorem dX11_costOf_100 : decode cX11_costOf 100 = .ok (.iconst 1, 1) := by decide +kernel
theorem dX11_costOf_101 : decode cX11_costOf 101 = .ok (.iadd, 1) := by decide +kernel
theorem dX11_costOf_102 : decode cX11_costOf 102 = .ok (.imul, 1) := by decide +kernel
theorem dX11_costOf_103 : decode cX11_costOf 103 = .ok (.iload 4, 2) := by decide +kernel
theorem dX11_costOf_105 : decode cX11_costOf 105 = .ok (.iadd, 1) := by decide +kernel
theorem dX11_costOf_106 : decode cX11_costOf 106 = .ok (.iaload, 1) := by decide +kernel
theorem dX11_costOf_107 : decode cX11_costOf 107 = .ok (.iadd, 1) := by decide +kernel
theorem dX11_costOf_108 : decode cX11_costOf 108 = .ok (.ireturn, 1) := by decide +kernel
set_option maxRecDepth 100000 in
theorem ggX11_laysPlaces_X11_laysCuts : GoodIn wsX11_laysPlaces wsX11_laysCuts := goodIn_r _ [8, 9, 10, 11, 12, 13, 14, 7, 15, 16, 17, 18, 19, 20, 21, 22, 23, 24, 25, 26, 27, 1, 28, 29, 30, 31, 32, 33, 34, 35, 36, 37, 38, 39, 40, 41, 42, 43, 44, 45, 46, 47, 48, 49, 50, 51, 52, 53, 54, 55, 56, 57, 58, 59, 60, 61, 62, 63, 64, 90, 91, 92, 93, 94, 95, 96, 97, 98, 99, 100, 101, 102, 103, 104, 105, 106, 107, 108, 109, 110, 111, 112, 113, 114, 115, 116] rfl (by decide +kernel)
set_option maxRecDepth 100000 in
theorem gX11_laysPlaces_X11_laysCuts : GoodIn wsX11_laysPlaces (wsV RX11 327 RX11 yX11_laysCuts wsX11_laysCuts) := goodIn_app (goodIn_of _ (by decide +kernel)) ggX11_laysPlaces_X11_laysCuts
set_option maxRecDepth 100000 in
theorem ggX11_laysPlaces_X11_many : GoodIn wsX11_laysPlaces wsX11_many := goodIn_r _ [27, 1, 90, 91, 92, 93, 94, 95, 96, 97, 98, 99, 100, 101, 102, 103, 104, 105, 106, 107, 108, 109, 110, 111, 112, 113, 114, 115, 116] rfl (by decide +kernel)
set_option maxRecDepth 100000 in
theorem gX11_laysPlaces_X11_many : GoodIn wsX11_laysPlaces (wsV RX11 207 RX11 yX11_many wsX11_many) := goodIn_app (goodIn_of _ (by decide +kernel)) ggX11_laysPlaces_X11_many
set_option maxRecDepth 100000 in
theorem ggX11_laysPlaces_X11_costOf : GoodIn wsX11_laysPlaces wsX11_costOf := goodIn_r _ [68, 69, 9, 1, 2, 70, 71, 72, 7, 73, 74, 75, 76, 77, 40, 41, 42, 43, 78, 79, 80, 81, 50, 51, 52, 53, 82, 83, 84, 85, 86, 87, 88, 89, 24, 25, 26, 27, 90, 91, 92, 93, 94, 95, 96, 97, 98, 99, 100, 101, 102, 103, 104, 105, 106, 107, 108, 109, 110, 111, 112, 113, 114, 115, 116] rfl (by decide +kernel)
set_option maxRecDepth 100000 in
theorem gX11_laysPlaces_X11_costOf : GoodIn wsX11_laysPlaces (wsV RX11 330 RX11 yX11_costOf wsX11_costOf) := goodIn_app (goodIn_of _ (by decide +kernel)) ggX11_laysPlaces_X11_costOf
set_option maxRecDepth 100000 in
theorem ggX11_laysPlaces_X11_bestFrom : GoodIn wsX11_laysPlaces wsX11_bestFrom := goodIn_r _ [89, 2, 69, 24, 25, 26, 7, 27, 1, 50, 51, 52, 53, 40, 41, 42, 43, 90, 91, 92, 93, 94, 95, 96, 97, 98, 99, 100, 101, 102, 103, 104, 105, 106, 107, 108, 109, 110, 111, 112, 113, 114, 115, 116] rfl (by decide +kernel)
set_option maxRecDepth 100000 in
theorem gX11_laysPlaces_X11_bestFrom : GoodIn wsX11_laysPlaces (wsV RX11 324 RX11 yX11_bestFrom wsX11_bestFrom) := goodIn_app (goodIn_of _ (by decide +kernel)) ggX11_laysPlaces_X11_bestFrom
set_option maxRecDepth 100000 in
theorem ggX11_laysPlaces_X11_spoken : GoodIn wsX11_laysPlaces wsX11_spoken := goodIn_r _ [53, 40, 41, 42, 7, 43, 1, 90, 91, 92, 93, 94, 95, 96, 97, 98, 99, 100, 101, 102, 103, 104, 105, 106, 107, 108, 109, 110, 111, 112, 113, 114, 115, 116] rfl (by decide +kernel)
set_option maxRecDepth 100000 in
theorem gX11_laysPlaces_X11_spoken : GoodIn wsX11_laysPlaces (wsV RX11 216 RX11 yX11_spoken wsX11_spoken) := goodIn_app (goodIn_of _ (by decide +kernel)) ggX11_laysPlaces_X11_spoken
theorem dX11_laysPlaces_0 : decode cX11_laysPlaces 0 = .ok (.aload_n 0, 1) := by decide +kernel
theorem dX11_laysPlaces_1 : decode cX11_laysPlaces 1 = .ok (.invokevirtual 327, 3) := by decide +kernel
theorem dX11_laysPlaces_4 : decode cX11_laysPlaces 4 = .ok (.aload_n 0, 1) := by decide +kernel
theorem dX11_laysPlaces_5 : decode cX11_laysPlaces 5 = .ok (.getfield 9, 3) := by decide +kernel
theorem dX11_laysPlaces_8 : decode cX11_laysPlaces 8 = .ok (.bipush 8, 2) := by decide +kernel
theorem dX11_laysPlaces_10 : decode cX11_laysPlaces 10 = .ok (.laload, 1) := by decide +kernel
theorem dX11_laysPlaces_11 : decode cX11_laysPlaces 11 = .ok (.l2i, 1) := by decide +kernel
theorem dX11_laysPlaces_12 : decode cX11_laysPlaces 12 = .ok (.istore_n 1, 1) := by decide +kernel
theorem dX11_laysPlaces_13 : decode cX11_laysPlaces 13 = .ok (.iload_n 1, 1) := by decide +kernel
theorem dX11_laysPlaces_14 : decode cX11_laysPlaces 14 = .ok (.iconst 1, 1) := by decide +kernel
theorem dX11_laysPlaces_15 : decode cX11_laysPlaces 15 = .ok (.isub, 1) := by decide +kernel
theorem dX11_laysPlaces_16 : decode cX11_laysPlaces 16 = .ok (.istore_n 2, 1) := by decide +kernel
theorem dX11_laysPlaces_17 : decode cX11_laysPlaces 17 = .ok (.iload_n 2, 1) := by decide +kernel
theorem dX11_laysPlaces_18 : decode cX11_laysPlaces 18 = .ok (.ifCond .lt 44, 3) := by decide +kernel
theorem dX11_laysPlaces_21 : decode cX11_laysPlaces 21 = .ok (.iconst 0, 1) := by decide +kernel
theorem dX11_laysPlaces_22 : decode cX11_laysPlaces 22 = .ok (.istore_n 3, 1) := by decide +kernel
theorem dX11_laysPlaces_23 : decode cX11_laysPlaces 23 = .ok (.iload_n 3, 1) := by decide +kernel
theorem dX11_laysPlaces_24 : decode cX11_laysPlaces 24 = .ok (.aload_n 0, 1) := by decide +kernel
theorem dX11_laysPlaces_25 : decode cX11_laysPlaces 25 = .ok (.invokevirtual 207, 3) := by decide +kernel
theorem dX11_laysPlaces_28 : decode cX11_laysPlaces 28 = .ok (.iconst 1, 1) := by decide +kernel
theorem dX11_laysPlaces_29 : decode cX11_laysPlaces 29 = .ok (.isub, 1) := by decide +kernel
theorem dX11_laysPlaces_30 : decode cX11_laysPlaces 30 = .ok (.if_icmp .ge 26, 3) := by decide +kernel
theorem dX11_laysPlaces_33 : decode cX11_laysPlaces 33 = .ok (.aload_n 0, 1) := by decide +kernel
theorem dX11_laysPlaces_34 : decode cX11_laysPlaces 34 = .ok (.getfield 48, 3) := by decide +kernel
theorem dX11_laysPlaces_37 : decode cX11_laysPlaces 37 = .ok (.bipush 32, 2) := by decide +kernel
theorem dX11_laysPlaces_39 : decode cX11_laysPlaces 39 = .ok (.iload_n 2, 1) := by decide +kernel
theorem dX11_laysPlaces_40 : decode cX11_laysPlaces 40 = .ok (.imul, 1) := by decide +kernel
theorem dX11_laysPlaces_41 : decode cX11_laysPlaces 41 = .ok (.iload_n 3, 1) := by decide +kernel
theorem dX11_laysPlaces_42 : decode cX11_laysPlaces 42 = .ok (.iadd, 1) := by decide +kernel
theorem dX11_laysPlaces_43 : decode cX11_laysPlaces 43 = .ok (.aload_n 0, 1) := by decide +kernel
theorem dX11_laysPlaces_44 : decode cX11_laysPlaces 44 = .ok (.iload_n 2, 1) := by decide +kernel
theorem dX11_laysPlaces_45 : decode cX11_laysPlaces 45 = .ok (.iload_n 3, 1) := by decide +kernel
theorem dX11_laysPlaces_46 : decode cX11_laysPlaces 46 = .ok (.invokevirtual 330, 3) := by decide +kernel
theorem dX11_laysPlaces_49 : decode cX11_laysPlaces 49 = .ok (.iastore, 1) := by decide +kernel
theorem dX11_laysPlaces_50 : decode cX11_laysPlaces 50 = .ok (.iinc 3 1, 3) := by decide +kernel
theorem dX11_laysPlaces_53 : decode cX11_laysPlaces 53 = .ok (.goto (-30), 3) := by decide +kernel
theorem dX11_laysPlaces_56 : decode cX11_laysPlaces 56 = .ok (.iinc 2 (-1), 3) := by decide +kernel
theorem dX11_laysPlaces_59 : decode cX11_laysPlaces 59 = .ok (.goto (-42), 3) := by decide +kernel
theorem dX11_laysPlaces_62 : decode cX11_laysPlaces 62 = .ok (.iconst 0, 1) := by decide +kernel
theorem dX11_laysPlaces_63 : decode cX11_laysPlaces 63 = .ok (.istore_n 2, 1) := by decide +kernel
theorem dX11_laysPlaces_64 : decode cX11_laysPlaces 64 = .ok (.iconst 0, 1) := by decide +kernel
theorem dX11_laysPlaces_65 : decode cX11_laysPlaces 65 = .ok (.istore_n 3, 1) := by decide +kernel
theorem dX11_laysPlaces_66 : decode cX11_laysPlaces 66 = .ok (.iconst 0, 1) := by decide +kernel
theorem dX11_laysPlaces_67 : decode cX11_laysPlaces 67 = .ok (.istore 4, 2) := by decide +kernel
theorem dX11_laysPlaces_69 : decode cX11_laysPlaces 69 = .ok (.iload 4, 2) := by decide +kernel
theorem dX11_laysPlaces_71 : decode cX11_laysPlaces 71 = .ok (.iload_n 1, 1) := by decide +kernel
theorem dX11_laysPlaces_72 : decode cX11_laysPlaces 72 = .ok (.if_icmp .ge 61, 3) := by decide +kernel
theorem dX11_laysPlaces_75 : decode cX11_laysPlaces 75 = .ok (.aload_n 0, 1) := by decide +kernel
theorem dX11_laysPlaces_76 : decode cX11_laysPlaces 76 = .ok (.getfield 51, 3) := by decide +kernel
theorem dX11_laysPlaces_79 : decode cX11_laysPlaces 79 = .ok (.iload 4, 2) := by decide +kernel
theorem dX11_laysPlaces_81 : decode cX11_laysPlaces 81 = .ok (.aload_n 0, 1) := by decide +kernel
theorem dX11_laysPlaces_82 : decode cX11_laysPlaces 82 = .ok (.iload 4, 2) := by decide +kernel
theorem dX11_laysPlaces_84 : decode cX11_laysPlaces 84 = .ok (.iload_n 2, 1) := by decide +kernel
theorem dX11_laysPlaces_85 : decode cX11_laysPlaces 85 = .ok (.iload_n 3, 1) := by decide +kernel
theorem dX11_laysPlaces_86 : decode cX11_laysPlaces 86 = .ok (.invokevirtual 324, 3) := by decide +kernel
theorem dX11_laysPlaces_89 : decode cX11_laysPlaces 89 = .ok (.iastore, 1) := by decide +kernel
theorem dX11_laysPlaces_90 : decode cX11_laysPlaces 90 = .ok (.aload_n 0, 1) := by decide +kernel
theorem dX11_laysPlaces_91 : decode cX11_laysPlaces 91 = .ok (.getfield 51, 3) := by decide +kernel
theorem dX11_laysPlaces_94 : decode cX11_laysPlaces 94 = .ok (.iload 4, 2) := by decide +kernel
theorem dX11_laysPlaces_96 : decode cX11_laysPlaces 96 = .ok (.iaload, 1) := by decide +kernel
theorem dX11_laysPlaces_97 : decode cX11_laysPlaces 97 = .ok (.iconst (-1), 1) := by decide +kernel
theorem dX11_laysPlaces_98 : decode cX11_laysPlaces 98 = .ok (.if_icmp .ne 5, 3) := by decide +kernel
theorem dX11_laysPlaces_101 : decode cX11_laysPlaces 101 = .ok (.iconst (-1), 1) := by decide +kernel
theorem dX11_laysPlaces_102 : decode cX11_laysPlaces 102 = .ok (.ireturn, 1) := by decide +kernel
theorem dX11_laysPlaces_103 : decode cX11_laysPlaces 103 = .ok (.aload_n 0, 1) := by decide +kernel
theorem dX11_laysPlaces_104 : decode cX11_laysPlaces 104 = .ok (.getfield 51, 3) := by decide +kernel
theorem dX11_laysPlaces_107 : decode cX11_laysPlaces 107 = .ok (.iload 4, 2) := by decide +kernel
theorem dX11_laysPlaces_109 : decode cX11_laysPlaces 109 = .ok (.iaload, 1) := by decide +kernel
theorem dX11_laysPlaces_110 : decode cX11_laysPlaces 110 = .ok (.iconst 1, 1) := by decide +kernel
theorem dX11_laysPlaces_111 : decode cX11_laysPlaces 111 = .ok (.iadd, 1) := by decide +kernel
theorem dX11_laysPlaces_112 : decode cX11_laysPlaces 112 = .ok (.istore_n 2, 1) := by decide +kernel
theorem dX11_laysPlaces_113 : decode cX11_laysPlaces 113 = .ok (.aload_n 0, 1) := by decide +kernel
theorem dX11_laysPlaces_114 : decode cX11_laysPlaces 114 = .ok (.iload_n 2, 1) := by decide +kernel
theorem dX11_laysPlaces_115 : decode cX11_laysPlaces 115 = .ok (.invokevirtual 216, 3) := by decide +kernel
theorem dX11_laysPlaces_118 : decode cX11_laysPlaces 118 = .ok (.aload_n 0, 1) := by decide +kernel
theorem dX11_laysPlaces_119 : decode cX11_laysPlaces 119 = .ok (.getfield 9, 3) := by decide +kernel
theorem dX11_laysPlaces_122 : decode cX11_laysPlaces 122 = .ok (.iconst 5, 1) := by decide +kernel
theorem dX11_laysPlaces_123 : decode cX11_laysPlaces 123 = .ok (.laload, 1) := by decide +kernel
theorem dX11_laysPlaces_124 : decode cX11_laysPlaces 124 = .ok (.l2i, 1) := by decide +kernel
theorem dX11_laysPlaces_125 : decode cX11_laysPlaces 125 = .ok (.iadd, 1) := by decide +kernel
theorem dX11_laysPlaces_126 : decode cX11_laysPlaces 126 = .ok (.istore_n 3, 1) := by decide +kernel
theorem dX11_laysPlaces_127 : decode cX11_laysPlaces 127 = .ok (.iinc 4 1, 3) := by decide +kernel
theorem dX11_laysPlaces_130 : decode cX11_laysPlaces 130 = .ok (.goto (-61), 3) := by decide +kernel
theorem dX11_laysPlaces_133 : decode cX11_laysPlaces 133 = .ok (.iload_n 1, 1) := by decide +kernel
theorem dX11_laysPlaces_134 : decode cX11_laysPlaces 134 = .ok (.ifCond .ne 7, 3) := by decide +kernel
theorem dX11_laysPlaces_137 : decode cX11_laysPlaces 137 = .ok (.iconst 0, 1) := by decide +kernel
theorem dX11_laysPlaces_138 : decode cX11_laysPlaces 138 = .ok (.goto 14, 3) := by decide +kernel
theorem dX11_laysPlaces_141 : decode cX11_laysPlaces 141 = .ok (.aload_n 0, 1) := by decide +kernel
theorem dX11_laysPlaces_142 : decode cX11_laysPlaces 142 = .ok (.getfield 48, 3) := by decide +kernel
theorem dX11_laysPlaces_145 : decode cX11_laysPlaces 145 = .ok (.aload_n 0, 1) := by decide +kernel
theorem dX11_laysPlaces_146 : decode cX11_laysPlaces 146 = .ok (.getfield 51, 3) := by decide +kernel
theorem dX11_laysPlaces_149 : decode cX11_laysPlaces 149 = .ok (.iconst 0, 1) := by decide +kernel
theorem dX11_laysPlaces_150 : decode cX11_laysPlaces 150 = .ok (.iaload, 1) := by decide +kernel
theorem dX11_laysPlaces_151 : decode cX11_laysPlaces 151 = .ok (.iaload, 1) := by decide +kernel
theorem dX11_laysPlaces_152 : decode cX11_laysPlaces 152 = .ok (.ireturn, 1) := by decide +kernel
set_option maxRecDepth 100000 in
theorem ggX11_placeOf_X11_isSlot : GoodIn wsX11_placeOf wsX11_isSlot := goodIn_r _ [7, 8, 9, 10, 6, 11, 99, 100, 101, 102, 103, 104, 105, 106, 107, 108, 109, 110, 111, 112, 113, 114, 115, 116, 117, 118, 119, 120, 121, 122, 123, 124, 125] rfl (by decide +kernel)
set_option maxRecDepth 100000 in
theorem gX11_placeOf_X11_isSlot : GoodIn wsX11_placeOf (wsV RX11 308 RX11 yX11_isSlot wsX11_isSlot) := goodIn_app (goodIn_of _ (by decide +kernel)) ggX11_placeOf_X11_isSlot
set_option maxRecDepth 100000 in
theorem ggX11_placeOf_X11_laysPlaces : GoodIn wsX11_placeOf wsX11_laysPlaces := goodIn_r _ [15, 8, 16, 2, 17, 18, 19, 6, 20, 21, 22, 23, 24, 25, 26, 27, 28, 29, 30, 31, 32, 33, 34, 35, 36, 37, 38, 39, 40, 41, 42, 43, 44, 45, 46, 47, 48, 49, 50, 51, 52, 53, 54, 55, 56, 57, 58, 59, 60, 61, 62, 63, 64, 65, 9, 10, 11, 66, 67, 68, 69, 70, 71, 72, 73, 74, 75, 76, 77, 78, 79, 80, 81, 82, 83, 84, 85, 86, 87, 88, 89, 90, 91, 92, 93, 94, 95, 96, 97, 98, 99, 100, 101, 102, 103, 104, 105, 106, 107, 108, 109, 110, 111, 112, 113, 114, 115, 116, 117, 118, 119, 120, 121, 122, 123, 124, 125] rfl (by decide +kernel)
set_option maxRecDepth 100000 in
theorem gX11_placeOf_X11_laysPlaces : GoodIn wsX11_placeOf (wsV RX11 333 RX11 yX11_laysPlaces wsX11_laysPlaces) := goodIn_app (goodIn_of _ (by decide +kernel)) ggX11_placeOf_X11_laysPlaces
theorem dX11_placeOf_0 : decode cX11_placeOf 0 = .ok (.aload_n 0, 1) := by decide +kernel
theorem dX11_placeOf_1 : decode cX11_placeOf 1 = .ok (.aload_n 0, 1) := by decide +kernel
theorem dX11_placeOf_2 : decode cX11_placeOf 2 = .ok (.iload_n 1, 1) := by decide +kernel
theorem dX11_placeOf_3 : decode cX11_placeOf 3 = .ok (.invokevirtual 308, 3) := by decide +kernel
theorem dX11_placeOf_6 : decode cX11_placeOf 6 = .ok (.ifCond .eq 7, 3) := by decide +kernel
theorem dX11_placeOf_9 : decode cX11_placeOf 9 = .ok (.iconst 0, 1) := by decide +kernel
theorem dX11_placeOf_10 : decode cX11_placeOf 10 = .ok (.goto 4, 3) := by decide +kernel
theorem dX11_placeOf_13 : decode cX11_placeOf 13 = .ok (.iconst 1, 1) := by decide +kernel
theorem dX11_placeOf_14 : decode cX11_placeOf 14 = .ok (.putfield 79, 3) := by decide +kernel
theorem dX11_placeOf_17 : decode cX11_placeOf 17 = .ok (.aload_n 0, 1) := by decide +kernel
theorem dX11_placeOf_18 : decode cX11_placeOf 18 = .ok (.getfield 79, 3) := by decide +kernel
theorem dX11_placeOf_21 : decode cX11_placeOf 21 = .ok (.ifCond .le 5, 3) := by decide +kernel
theorem dX11_placeOf_24 : decode cX11_placeOf 24 = .ok (.iconst 0, 1) := by decide +kernel
theorem dX11_placeOf_25 : decode cX11_placeOf 25 = .ok (.ireturn, 1) := by decide +kernel
theorem dX11_placeOf_26 : decode cX11_placeOf 26 = .ok (.aload_n 0, 1) := by decide +kernel
theorem dX11_placeOf_27 : decode cX11_placeOf 27 = .ok (.invokevirtual 333, 3) := by decide +kernel
theorem dX11_placeOf_30 : decode cX11_placeOf 30 = .ok (.iconst (-1), 1) := by decide +kernel
theorem dX11_placeOf_31 : decode cX11_placeOf 31 = .ok (.if_icmp .ne 7, 3) := by decide +kernel
theorem dX11_placeOf_34 : decode cX11_placeOf 34 = .ok (.iconst (-1), 1) := by decide +kernel
theorem dX11_placeOf_35 : decode cX11_placeOf 35 = .ok (.goto 9, 3) := by decide +kernel
theorem dX11_placeOf_38 : decode cX11_placeOf 38 = .ok (.aload_n 0, 1) := by decide +kernel
theorem dX11_placeOf_39 : decode cX11_placeOf 39 = .ok (.getfield 51, 3) := by decide +kernel
theorem dX11_placeOf_42 : decode cX11_placeOf 42 = .ok (.iload_n 1, 1) := by decide +kernel
theorem dX11_placeOf_43 : decode cX11_placeOf 43 = .ok (.iaload, 1) := by decide +kernel
theorem dX11_placeOf_44 : decode cX11_placeOf 44 = .ok (.ireturn, 1) := by decide +kernel
set_option maxRecDepth 100000 in
theorem ggX11_placementCost_X11_laysPlaces : GoodIn wsX11_placementCost wsX11_laysPlaces := goodIn_r _ [6, 7, 8, 9, 10, 11, 12, 5, 13, 14, 15, 16, 17, 18, 19, 20, 21, 22, 23, 24, 25, 26, 27, 28, 29, 30, 31, 32, 33, 34, 35, 36, 37, 38, 39, 40, 41, 42, 43, 44, 45, 46, 47, 48, 49, 50, 51, 52, 53, 54, 55, 56, 57, 58, 59, 60, 61, 62, 63, 64, 65, 66, 67, 68, 69, 70, 71, 72, 73, 74, 75, 76, 77, 78, 79, 80, 81, 82, 83, 84, 85, 86, 87, 88, 89, 90, 91, 92, 93, 94, 95, 96, 97, 98, 99, 100, 101, 102, 103, 104, 105, 106, 107, 108, 109, 110, 111, 112, 113, 114, 115, 116, 117, 118, 119, 120, 121] rfl (by decide +kernel)
set_option maxRecDepth 100000 in
theorem gX11_placementCost_X11_laysPlaces : GoodIn wsX11_placementCost (wsV RX11 333 RX11 yX11_laysPlaces wsX11_laysPlaces) := goodIn_app (goodIn_of _ (by decide +kernel)) ggX11_placementCost_X11_laysPlaces
theorem dX11_placementCost_0 : decode cX11_placementCost 0 = .ok (.aload_n 0, 1) := by decide +kernel
theorem dX11_placementCost_1 : decode cX11_placementCost 1 = .ok (.iconst 0, 1) := by decide +kernel
theorem dX11_placementCost_2 : decode cX11_placementCost 2 = .ok (.putfield 79, 3) := by decide +kernel
theorem dX11_placementCost_5 : decode cX11_placementCost 5 = .ok (.aload_n 0, 1) := by decide +kernel
theorem dX11_placementCost_6 : decode cX11_placementCost 6 = .ok (.invokevirtual 333, 3) := by decide +kernel
theorem dX11_placementCost_9 : decode cX11_placementCost 9 = .ok (.ireturn, 1) := by decide +kernel
set_option maxRecDepth 100000 in
theorem ggX11_choices_X11_isSlot : GoodIn wsX11_choices wsX11_isSlot := goodIn_r _ [6, 7, 8, 9, 5, 10, 39, 40, 41, 42, 43, 44, 45, 46, 47, 48, 49, 50, 51, 52, 53, 54, 55, 56, 57, 58, 59, 60, 61, 62, 63, 64, 65] rfl (by decide +kernel)
set_option maxRecDepth 100000 in
theorem gX11_choices_X11_isSlot : GoodIn wsX11_choices (wsV RX11 308 RX11 yX11_isSlot wsX11_isSlot) := goodIn_app (goodIn_of _ (by decide +kernel)) ggX11_choices_X11_isSlot
set_option maxRecDepth 100000 in
theorem ggX11_choices_X11_many : GoodIn wsX11_choices wsX11_many := goodIn_r _ [14, 7, 39, 40, 41, 42, 43, 44, 45, 46, 47, 48, 49, 50, 51, 52, 53, 54, 55, 56, 57, 58, 59, 60, 61, 62, 63, 64, 65] rfl (by decide +kernel)
set_option maxRecDepth 100000 in
theorem gX11_choices_X11_many : GoodIn wsX11_choices (wsV RX11 207 RX11 yX11_many wsX11_many) := goodIn_app (goodIn_of _ (by decide +kernel)) ggX11_choices_X11_many
set_option maxRecDepth 100000 in
theorem ggX11_choices_X11_mayHave : GoodIn wsX11_choices wsX11_mayHave := goodIn_r _ [18, 19, 20, 21, 5, 22, 7, 23, 24, 25, 26, 27, 28, 29, 30, 31, 32, 33, 34, 35, 36, 37, 38, 39, 40, 41, 42, 43, 44, 45, 46, 47, 48, 49, 50, 51, 52, 53, 54, 55, 56, 57, 58, 59, 60, 61, 62, 63, 64, 65] rfl (by decide +kernel)
set_option maxRecDepth 100000 in
theorem gX11_choices_X11_mayHave : GoodIn wsX11_choices (wsV RX11 321 RX11 yX11_mayHave wsX11_mayHave) := goodIn_app (goodIn_of _ (by decide +kernel)) ggX11_choices_X11_mayHave
theorem dX11_choices_0 : decode cX11_choices 0 = .ok (.aload_n 0, 1) := by decide +kernel
theorem dX11_choices_1 : decode cX11_choices 1 = .ok (.aload_n 0, 1) := by decide +kernel
theorem dX11_choices_2 : decode cX11_choices 2 = .ok (.iload_n 1, 1) := by decide +kernel
theorem dX11_choices_3 : decode cX11_choices 3 = .ok (.invokevirtual 308, 3) := by decide +kernel
theorem dX11_choices_6 : decode cX11_choices 6 = .ok (.ifCond .eq 7, 3) := by decide +kernel
theorem dX11_choices_9 : decode cX11_choices 9 = .ok (.iconst 0, 1) := by decide +kernel
theorem dX11_choices_10 : decode cX11_choices 10 = .ok (.goto 4, 3) := by decide +kernel
theorem dX11_choices_13 : decode cX11_choices 13 = .ok (.iconst 1, 1) := by decide +kernel
theorem dX11_choices_14 : decode cX11_choices 14 = .ok (.putfield 79, 3) := by decide +kernel
theorem dX11_choices_17 : decode cX11_choices 17 = .ok (.aload_n 0, 1) := by decide +kernel
theorem dX11_choices_18 : decode cX11_choices 18 = .ok (.getfield 79, 3) := by decide +kernel
theorem dX11_choices_21 : decode cX11_choices 21 = .ok (.ifCond .le 5, 3) := by decide +kernel
theorem dX11_choices_24 : decode cX11_choices 24 = .ok (.iconst 0, 1) := by decide +kernel
theorem dX11_choices_25 : decode cX11_choices 25 = .ok (.ireturn, 1) := by decide +kernel
theorem dX11_choices_26 : decode cX11_choices 26 = .ok (.iconst 0, 1) := by decide +kernel
theorem dX11_choices_27 : decode cX11_choices 27 = .ok (.istore_n 2, 1) := by decide +kernel
theorem dX11_choices_28 : decode cX11_choices 28 = .ok (.iconst 0, 1) := by decide +kernel
theorem dX11_choices_29 : decode cX11_choices 29 = .ok (.istore_n 3, 1) := by decide +kernel
theorem dX11_choices_30 : decode cX11_choices 30 = .ok (.iload_n 3, 1) := by decide +kernel
theorem dX11_choices_31 : decode cX11_choices 31 = .ok (.aload_n 0, 1) := by decide +kernel
theorem dX11_choices_32 : decode cX11_choices 32 = .ok (.invokevirtual 207, 3) := by decide +kernel
theorem dX11_choices_35 : decode cX11_choices 35 = .ok (.iconst 1, 1) := by decide +kernel
theorem dX11_choices_36 : decode cX11_choices 36 = .ok (.isub, 1) := by decide +kernel
theorem dX11_choices_37 : decode cX11_choices 37 = .ok (.if_icmp .ge 26, 3) := by decide +kernel
theorem dX11_choices_40 : decode cX11_choices 40 = .ok (.iload_n 2, 1) := by decide +kernel
theorem dX11_choices_41 : decode cX11_choices 41 = .ok (.aload_n 0, 1) := by decide +kernel
theorem dX11_choices_42 : decode cX11_choices 42 = .ok (.iload_n 1, 1) := by decide +kernel
theorem dX11_choices_43 : decode cX11_choices 43 = .ok (.iload_n 3, 1) := by decide +kernel
theorem dX11_choices_44 : decode cX11_choices 44 = .ok (.invokevirtual 321, 3) := by decide +kernel
theorem dX11_choices_47 : decode cX11_choices 47 = .ok (.ifCond .eq 7, 3) := by decide +kernel
theorem dX11_choices_50 : decode cX11_choices 50 = .ok (.iconst 1, 1) := by decide +kernel
theorem dX11_choices_51 : decode cX11_choices 51 = .ok (.goto 4, 3) := by decide +kernel
theorem dX11_choices_54 : decode cX11_choices 54 = .ok (.iconst 0, 1) := by decide +kernel
theorem dX11_choices_55 : decode cX11_choices 55 = .ok (.iadd, 1) := by decide +kernel
theorem dX11_choices_56 : decode cX11_choices 56 = .ok (.istore_n 2, 1) := by decide +kernel
theorem dX11_choices_57 : decode cX11_choices 57 = .ok (.iinc 3 1, 3) := by decide +kernel
theorem dX11_choices_60 : decode cX11_choices 60 = .ok (.goto (-30), 3) := by decide +kernel
theorem dX11_choices_63 : decode cX11_choices 63 = .ok (.iload_n 2, 1) := by decide +kernel
theorem dX11_choices_64 : decode cX11_choices 64 = .ok (.ireturn, 1) := by decide +kernel
set_option maxRecDepth 100000 in
theorem ggX11_realTime_X11_spoken : GoodIn wsX11_realTime wsX11_spoken := goodIn_r _ [7, 8, 9, 10, 6, 11, 1, 94, 95, 96, 97, 98, 99, 100, 101, 102, 103, 104, 105, 106, 107, 108, 109, 110, 111, 112, 113, 114, 115, 116, 117, 118, 119, 120] rfl (by decide +kernel)
set_option maxRecDepth 100000 in
theorem gX11_realTime_X11_spoken : GoodIn wsX11_realTime (wsV RX11 216 RX11 yX11_spoken wsX11_spoken) := goodIn_app (goodIn_of _ (by decide +kernel)) ggX11_realTime_X11_spoken
set_option maxRecDepth 100000 in
theorem ggX11_realTime_X11_laysPlaces : GoodIn wsX11_realTime wsX11_laysPlaces := goodIn_r _ [15, 1, 16, 2, 17, 18, 19, 6, 20, 21, 22, 23, 24, 25, 26, 27, 28, 29, 30, 31, 32, 33, 34, 35, 36, 37, 38, 39, 40, 41, 42, 43, 44, 45, 46, 47, 48, 49, 50, 51, 8, 9, 10, 11, 52, 53, 54, 55, 56, 57, 3, 4, 5, 7, 58, 59, 60, 61, 62, 63, 64, 65, 66, 67, 68, 69, 70, 71, 72, 73, 74, 75, 76, 77, 78, 79, 80, 81, 82, 83, 84, 85, 86, 87, 88, 89, 90, 91, 92, 93, 94, 95, 96, 97, 98, 99, 100, 101, 102, 103, 104, 105, 106, 107, 108, 109, 110, 111, 112, 113, 114, 115, 116, 117, 118, 119, 120] rfl (by decide +kernel)
set_option maxRecDepth 100000 in
theorem gX11_realTime_X11_laysPlaces : GoodIn wsX11_realTime (wsV RX11 333 RX11 yX11_laysPlaces wsX11_laysPlaces) := goodIn_app (goodIn_of _ (by decide +kernel)) ggX11_realTime_X11_laysPlaces
set_option maxRecDepth 100000 in
theorem ggX11_realTime_X11_ofSlot : GoodIn wsX11_realTime wsX11_ofSlot := goodIn_r _ [89, 1, 94, 95, 96, 97, 98, 99, 100, 101, 102, 103, 104, 105, 106, 107, 108, 109, 110, 111, 112, 113, 114, 115, 116, 117, 118, 119, 120] rfl (by decide +kernel)
set_option maxRecDepth 100000 in
theorem gX11_realTime_X11_ofSlot : GoodIn wsX11_realTime (wsV RX11 314 RX11 yX11_ofSlot wsX11_ofSlot) := goodIn_app (goodIn_of _ (by decide +kernel)) ggX11_realTime_X11_ofSlot
theorem dX11_realTime_0 : decode cX11_realTime 0 = .ok (.aload_n 0, 1) := by decide +kernel
theorem dX11_realTime_1 : decode cX11_realTime 1 = .ok (.iload_n 1, 1) := by decide +kernel
theorem dX11_realTime_2 : decode cX11_realTime 2 = .ok (.invokevirtual 216, 3) := by decide +kernel
theorem dX11_realTime_5 : decode cX11_realTime 5 = .ok (.istore_n 2, 1) := by decide +kernel
theorem dX11_realTime_6 : decode cX11_realTime 6 = .ok (.aload_n 0, 1) := by decide +kernel
theorem dX11_realTime_7 : decode cX11_realTime 7 = .ok (.invokevirtual 333, 3) := by decide +kernel
theorem dX11_realTime_10 : decode cX11_realTime 10 = .ok (.iconst (-1), 1) := by decide +kernel
theorem dX11_realTime_11 : decode cX11_realTime 11 = .ok (.if_icmp .ne 5, 3) := by decide +kernel
theorem dX11_realTime_14 : decode cX11_realTime 14 = .ok (.iload_n 2, 1) := by decide +kernel
theorem dX11_realTime_15 : decode cX11_realTime 15 = .ok (.ireturn, 1) := by decide +kernel
theorem dX11_realTime_16 : decode cX11_realTime 16 = .ok (.iconst 0, 1) := by decide +kernel
theorem dX11_realTime_17 : decode cX11_realTime 17 = .ok (.istore_n 3, 1) := by decide +kernel
theorem dX11_realTime_18 : decode cX11_realTime 18 = .ok (.iload_n 3, 1) := by decide +kernel
theorem dX11_realTime_19 : decode cX11_realTime 19 = .ok (.i2l, 1) := by decide +kernel
theorem dX11_realTime_20 : decode cX11_realTime 20 = .ok (.aload_n 0, 1) := by decide +kernel
theorem dX11_realTime_21 : decode cX11_realTime 21 = .ok (.getfield 9, 3) := by decide +kernel
theorem dX11_realTime_24 : decode cX11_realTime 24 = .ok (.bipush 8, 2) := by decide +kernel
theorem dX11_realTime_26 : decode cX11_realTime 26 = .ok (.laload, 1) := by decide +kernel
theorem dX11_realTime_27 : decode cX11_realTime 27 = .ok (.lcmp, 1) := by decide +kernel
theorem dX11_realTime_28 : decode cX11_realTime 28 = .ok (.ifCond .ge 32, 3) := by decide +kernel
theorem dX11_realTime_31 : decode cX11_realTime 31 = .ok (.iload_n 2, 1) := by decide +kernel
theorem dX11_realTime_32 : decode cX11_realTime 32 = .ok (.aload_n 0, 1) := by decide +kernel
theorem dX11_realTime_33 : decode cX11_realTime 33 = .ok (.getfield 51, 3) := by decide +kernel
theorem dX11_realTime_36 : decode cX11_realTime 36 = .ok (.iload_n 3, 1) := by decide +kernel
theorem dX11_realTime_37 : decode cX11_realTime 37 = .ok (.iaload, 1) := by decide +kernel
theorem dX11_realTime_38 : decode cX11_realTime 38 = .ok (.iload_n 1, 1) := by decide +kernel
theorem dX11_realTime_39 : decode cX11_realTime 39 = .ok (.if_icmp .ge 12, 3) := by decide +kernel
theorem dX11_realTime_42 : decode cX11_realTime 42 = .ok (.aload_n 0, 1) := by decide +kernel
theorem dX11_realTime_43 : decode cX11_realTime 43 = .ok (.iload_n 3, 1) := by decide +kernel
theorem dX11_realTime_44 : decode cX11_realTime 44 = .ok (.iconst 1, 1) := by decide +kernel
theorem dX11_realTime_45 : decode cX11_realTime 45 = .ok (.invokevirtual 314, 3) := by decide +kernel
theorem dX11_realTime_48 : decode cX11_realTime 48 = .ok (.goto 4, 3) := by decide +kernel
theorem dX11_realTime_51 : decode cX11_realTime 51 = .ok (.iconst 0, 1) := by decide +kernel
theorem dX11_realTime_52 : decode cX11_realTime 52 = .ok (.iadd, 1) := by decide +kernel
theorem dX11_realTime_53 : decode cX11_realTime 53 = .ok (.istore_n 2, 1) := by decide +kernel
theorem dX11_realTime_54 : decode cX11_realTime 54 = .ok (.iinc 3 1, 3) := by decide +kernel
theorem dX11_realTime_57 : decode cX11_realTime 57 = .ok (.goto (-39), 3) := by decide +kernel
theorem dX11_realTime_60 : decode cX11_realTime 60 = .ok (.iload_n 2, 1) := by decide +kernel
theorem dX11_realTime_61 : decode cX11_realTime 61 = .ok (.ireturn, 1) := by decide +kernel
set_option maxRecDepth 100000 in
theorem ggX11_keep_X11_keeps : GoodIn wsX11_keep wsX11_keeps := goodIn_r _ [7, 8, 9, 2, 22, 23, 24, 25, 26, 27, 28, 29, 30, 31, 32, 33, 34, 35, 36, 37, 38, 39, 40, 41, 42, 43, 44, 45, 46, 47, 48] rfl (by decide +kernel)
set_option maxRecDepth 100000 in
theorem gX11_keep_X11_keeps : GoodIn wsX11_keep (wsV RX11 204 RX11 yX11_keeps wsX11_keeps) := goodIn_app (goodIn_of _ (by decide +kernel)) ggX11_keep_X11_keeps
set_option maxRecDepth 100000 in
theorem ggX11_keep_X11_many : GoodIn wsX11_keep wsX11_many := goodIn_r _ [13, 2, 22, 23, 24, 25, 26, 27, 28, 29, 30, 31, 32, 33, 34, 35, 36, 37, 38, 39, 40, 41, 42, 43, 44, 45, 46, 47, 48] rfl (by decide +kernel)
set_option maxRecDepth 100000 in
theorem gX11_keep_X11_many : GoodIn wsX11_keep (wsV RX11 207 RX11 yX11_many wsX11_many) := goodIn_app (goodIn_of _ (by decide +kernel)) ggX11_keep_X11_many
set_option maxRecDepth 100000 in
theorem ggX11_keep_X11_of : GoodIn wsX11_keep wsX11_of := goodIn_r _ [17, 2, 22, 23, 24, 25, 26, 27, 28, 29, 30, 31, 32, 33, 34, 35, 36, 37, 38, 39, 40, 41, 42, 43, 44, 45, 46, 47, 48] rfl (by decide +kernel)
set_option maxRecDepth 100000 in
theorem gX11_keep_X11_of : GoodIn wsX11_keep (wsV RX11 210 RX11 yX11_of wsX11_of) := goodIn_app (goodIn_of _ (by decide +kernel)) ggX11_keep_X11_of
set_option maxRecDepth 100000 in
theorem ggX11_keep_X11_spoken : GoodIn wsX11_keep wsX11_spoken := goodIn_r _ [21, 14, 15, 16, 6, 17, 2, 22, 23, 24, 25, 26, 27, 28, 29, 30, 31, 32, 33, 34, 35, 36, 37, 38, 39, 40, 41, 42, 43, 44, 45, 46, 47, 48] rfl (by decide +kernel)
set_option maxRecDepth 100000 in
theorem gX11_keep_X11_spoken : GoodIn wsX11_keep (wsV RX11 216 RX11 yX11_spoken wsX11_spoken) := goodIn_app (goodIn_of _ (by decide +kernel)) ggX11_keep_X11_spoken
theorem dX11_keep_0 : decode cX11_keep 0 = .ok (.aload_n 0, 1) := by decide +kernel
theorem dX11_keep_1 : decode cX11_keep 1 = .ok (.iconst 0, 1) := by decide +kernel
theorem dX11_keep_2 : decode cX11_keep 2 = .ok (.putfield 79, 3) := by decide +kernel
theorem dX11_keep_5 : decode cX11_keep 5 = .ok (.aload_n 0, 1) := by decide +kernel
theorem dX11_keep_6 : decode cX11_keep 6 = .ok (.invokevirtual 204, 3) := by decide +kernel
theorem dX11_keep_9 : decode cX11_keep 9 = .ok (.aload_n 0, 1) := by decide +kernel
theorem dX11_keep_10 : decode cX11_keep 10 = .ok (.getfield 9, 3) := by decide +kernel
theorem dX11_keep_13 : decode cX11_keep 13 = .ok (.sipush 409, 3) := by decide +kernel
theorem dX11_keep_16 : decode cX11_keep 16 = .ok (.lconst 1, 1) := by decide +kernel
theorem dX11_keep_17 : decode cX11_keep 17 = .ok (.lastore, 1) := by decide +kernel
theorem dX11_keep_18 : decode cX11_keep 18 = .ok (.aload_n 0, 1) := by decide +kernel
theorem dX11_keep_19 : decode cX11_keep 19 = .ok (.getfield 9, 3) := by decide +kernel
theorem dX11_keep_22 : decode cX11_keep 22 = .ok (.sipush 410, 3) := by decide +kernel
theorem dX11_keep_25 : decode cX11_keep 25 = .ok (.aload_n 0, 1) := by decide +kernel
theorem dX11_keep_26 : decode cX11_keep 26 = .ok (.invokevirtual 207, 3) := by decide +kernel
theorem dX11_keep_29 : decode cX11_keep 29 = .ok (.i2l, 1) := by decide +kernel
theorem dX11_keep_30 : decode cX11_keep 30 = .ok (.lastore, 1) := by decide +kernel
theorem dX11_keep_31 : decode cX11_keep 31 = .ok (.iconst 0, 1) := by decide +kernel
theorem dX11_keep_32 : decode cX11_keep 32 = .ok (.istore_n 1, 1) := by decide +kernel
theorem dX11_keep_33 : decode cX11_keep 33 = .ok (.iload_n 1, 1) := by decide +kernel
theorem dX11_keep_34 : decode cX11_keep 34 = .ok (.bipush 32, 2) := by decide +kernel
theorem dX11_keep_36 : decode cX11_keep 36 = .ok (.if_icmp .ge 74, 3) := by decide +kernel
theorem dX11_keep_39 : decode cX11_keep 39 = .ok (.aload_n 0, 1) := by decide +kernel
theorem dX11_keep_40 : decode cX11_keep 40 = .ok (.getfield 9, 3) := by decide +kernel
theorem dX11_keep_43 : decode cX11_keep 43 = .ok (.sipush 411, 3) := by decide +kernel
theorem dX11_keep_46 : decode cX11_keep 46 = .ok (.iconst 2, 1) := by decide +kernel
theorem dX11_keep_47 : decode cX11_keep 47 = .ok (.iload_n 1, 1) := by decide +kernel
theorem dX11_keep_48 : decode cX11_keep 48 = .ok (.imul, 1) := by decide +kernel
theorem dX11_keep_49 : decode cX11_keep 49 = .ok (.iadd, 1) := by decide +kernel
theorem dX11_keep_50 : decode cX11_keep 50 = .ok (.iload_n 1, 1) := by decide +kernel
theorem dX11_keep_51 : decode cX11_keep 51 = .ok (.aload_n 0, 1) := by decide +kernel
theorem dX11_keep_52 : decode cX11_keep 52 = .ok (.invokevirtual 207, 3) := by decide +kernel
theorem dX11_keep_55 : decode cX11_keep 55 = .ok (.if_icmp .ge 14, 3) := by decide +kernel
theorem dX11_keep_58 : decode cX11_keep 58 = .ok (.aload_n 0, 1) := by decide +kernel
theorem dX11_keep_59 : decode cX11_keep 59 = .ok (.iload_n 1, 1) := by decide +kernel
theorem dX11_keep_60 : decode cX11_keep 60 = .ok (.bipush 11, 2) := by decide +kernel
theorem dX11_keep_62 : decode cX11_keep 62 = .ok (.invokevirtual 210, 3) := by decide +kernel
theorem dX11_keep_65 : decode cX11_keep 65 = .ok (.i2l, 1) := by decide +kernel
theorem dX11_keep_66 : decode cX11_keep 66 = .ok (.goto 4, 3) := by decide +kernel
theorem dX11_keep_69 : decode cX11_keep 69 = .ok (.lconst 0, 1) := by decide +kernel
theorem dX11_keep_70 : decode cX11_keep 70 = .ok (.lastore, 1) := by decide +kernel
theorem dX11_keep_71 : decode cX11_keep 71 = .ok (.aload_n 0, 1) := by decide +kernel
theorem dX11_keep_72 : decode cX11_keep 72 = .ok (.getfield 9, 3) := by decide +kernel
theorem dX11_keep_75 : decode cX11_keep 75 = .ok (.sipush 411, 3) := by decide +kernel
theorem dX11_keep_78 : decode cX11_keep 78 = .ok (.iconst 2, 1) := by decide +kernel
theorem dX11_keep_79 : decode cX11_keep 79 = .ok (.iload_n 1, 1) := by decide +kernel
theorem dX11_keep_80 : decode cX11_keep 80 = .ok (.imul, 1) := by decide +kernel
theorem dX11_keep_81 : decode cX11_keep 81 = .ok (.iadd, 1) := by decide +kernel
theorem dX11_keep_82 : decode cX11_keep 82 = .ok (.iconst 1, 1) := by decide +kernel
theorem dX11_keep_83 : decode cX11_keep 83 = .ok (.iadd, 1) := by decide +kernel
theorem dX11_keep_84 : decode cX11_keep 84 = .ok (.iload_n 1, 1) := by decide +kernel
theorem dX11_keep_85 : decode cX11_keep 85 = .ok (.aload_n 0, 1) := by decide +kernel
theorem dX11_keep_86 : decode cX11_keep 86 = .ok (.invokevirtual 207, 3) := by decide +kernel
theorem dX11_keep_89 : decode cX11_keep 89 = .ok (.if_icmp .ge 13, 3) := by decide +kernel
theorem dX11_keep_92 : decode cX11_keep 92 = .ok (.aload_n 0, 1) := by decide +kernel
theorem dX11_keep_93 : decode cX11_keep 93 = .ok (.iload_n 1, 1) := by decide +kernel
theorem dX11_keep_94 : decode cX11_keep 94 = .ok (.iconst 0, 1) := by decide +kernel
theorem dX11_keep_95 : decode cX11_keep 95 = .ok (.invokevirtual 210, 3) := by decide +kernel
theorem dX11_keep_98 : decode cX11_keep 98 = .ok (.i2l, 1) := by decide +kernel
theorem dX11_keep_99 : decode cX11_keep 99 = .ok (.goto 4, 3) := by decide +kernel
theorem dX11_keep_102 : decode cX11_keep 102 = .ok (.lconst 0, 1) := by decide +kernel
theorem dX11_keep_103 : decode cX11_keep 103 = .ok (.lastore, 1) := by decide +kernel
theorem dX11_keep_104 : decode cX11_keep 104 = .ok (.iinc 1 1, 3) := by decide +kernel
theorem dX11_keep_107 : decode cX11_keep 107 = .ok (.goto (-74), 3) := by decide +kernel
theorem dX11_keep_110 : decode cX11_keep 110 = .ok (.aload_n 0, 1) := by decide +kernel
theorem dX11_keep_111 : decode cX11_keep 111 = .ok (.aload_n 0, 1) := by decide +kernel
theorem dX11_keep_112 : decode cX11_keep 112 = .ok (.invokevirtual 207, 3) := by decide +kernel
theorem dX11_keep_115 : decode cX11_keep 115 = .ok (.invokevirtual 216, 3) := by decide +kernel
theorem dX11_keep_118 : decode cX11_keep 118 = .ok (.ireturn, 1) := by decide +kernel
theorem dX11_keptTime_0 : decode cX11_keptTime 0 = .ok (.iconst 0, 1) := by decide +kernel
theorem dX11_keptTime_1 : decode cX11_keptTime 1 = .ok (.istore_n 1, 1) := by decide +kernel
theorem dX11_keptTime_2 : decode cX11_keptTime 2 = .ok (.iconst 0, 1) := by decide +kernel
theorem dX11_keptTime_3 : decode cX11_keptTime 3 = .ok (.istore_n 2, 1) := by decide +kernel
theorem dX11_keptTime_4 : decode cX11_keptTime 4 = .ok (.iload_n 2, 1) := by decide +kernel
theorem dX11_keptTime_5 : decode cX11_keptTime 5 = .ok (.i2l, 1) := by decide +kernel
theorem dX11_keptTime_6 : decode cX11_keptTime 6 = .ok (.aload_n 0, 1) := by decide +kernel
theorem dX11_keptTime_7 : decode cX11_keptTime 7 = .ok (.getfield 9, 3) := by decide +kernel
theorem dX11_keptTime_10 : decode cX11_keptTime 10 = .ok (.sipush 410, 3) := by decide +kernel
theorem dX11_keptTime_13 : decode cX11_keptTime 13 = .ok (.laload, 1) := by decide +kernel
theorem dX11_keptTime_14 : decode cX11_keptTime 14 = .ok (.lcmp, 1) := by decide +kernel
theorem dX11_keptTime_15 : decode cX11_keptTime 15 = .ok (.ifCond .ge 27, 3) := by decide +kernel
theorem dX11_keptTime_18 : decode cX11_keptTime 18 = .ok (.iload_n 1, 1) := by decide +kernel
theorem dX11_keptTime_19 : decode cX11_keptTime 19 = .ok (.aload_n 0, 1) := by decide +kernel
theorem dX11_keptTime_20 : decode cX11_keptTime 20 = .ok (.getfield 9, 3) := by decide +kernel
theorem dX11_keptTime_23 : decode cX11_keptTime 23 = .ok (.sipush 411, 3) := by decide +kernel
theorem dX11_keptTime_26 : decode cX11_keptTime 26 = .ok (.iconst 2, 1) := by decide +kernel
theorem dX11_keptTime_27 : decode cX11_keptTime 27 = .ok (.iload_n 2, 1) := by decide +kernel
theorem dX11_keptTime_28 : decode cX11_keptTime 28 = .ok (.imul, 1) := by decide +kernel
theorem dX11_keptTime_29 : decode cX11_keptTime 29 = .ok (.iadd, 1) := by decide +kernel
theorem dX11_keptTime_30 : decode cX11_keptTime 30 = .ok (.iconst 1, 1) := by decide +kernel
theorem dX11_keptTime_31 : decode cX11_keptTime 31 = .ok (.iadd, 1) := by decide +kernel
theorem dX11_keptTime_32 : decode cX11_keptTime 32 = .ok (.laload, 1) := by decide +kernel
theorem dX11_keptTime_33 : decode cX11_keptTime 33 = .ok (.l2i, 1) := by decide +kernel
theorem dX11_keptTime_34 : decode cX11_keptTime 34 = .ok (.iadd, 1) := by decide +kernel
theorem dX11_keptTime_35 : decode cX11_keptTime 35 = .ok (.istore_n 1, 1) := by decide +kernel
theorem dX11_keptTime_36 : decode cX11_keptTime 36 = .ok (.iinc 2 1, 3) := by decide +kernel
theorem dX11_keptTime_39 : decode cX11_keptTime 39 = .ok (.goto (-35), 3) := by decide +kernel
theorem dX11_keptTime_42 : decode cX11_keptTime 42 = .ok (.iload_n 1, 1) := by decide +kernel
theorem dX11_keptTime_43 : decode cX11_keptTime 43 = .ok (.ireturn, 1) := by decide +kernel
set_option maxRecDepth 100000 in
theorem ggX11_nowAt_X11_many : GoodIn wsX11_nowAt wsX11_many := goodIn_r _ [6, 1, 11, 12, 13, 14, 15, 16, 17, 18, 19, 20, 21, 22, 23, 24, 25, 26, 27, 28, 29, 30, 31, 32, 33, 34, 35, 36, 37] rfl (by decide +kernel)
set_option maxRecDepth 100000 in
theorem gX11_nowAt_X11_many : GoodIn wsX11_nowAt (wsV RX11 207 RX11 yX11_many wsX11_many) := goodIn_app (goodIn_of _ (by decide +kernel)) ggX11_nowAt_X11_many
set_option maxRecDepth 100000 in
theorem ggX11_nowAt_X11_of : GoodIn wsX11_nowAt wsX11_of := goodIn_r _ [10, 1, 11, 12, 13, 14, 15, 16, 17, 18, 19, 20, 21, 22, 23, 24, 25, 26, 27, 28, 29, 30, 31, 32, 33, 34, 35, 36, 37] rfl (by decide +kernel)
set_option maxRecDepth 100000 in
theorem gX11_nowAt_X11_of : GoodIn wsX11_nowAt (wsV RX11 210 RX11 yX11_of wsX11_of) := goodIn_app (goodIn_of _ (by decide +kernel)) ggX11_nowAt_X11_of
theorem dX11_nowAt_0 : decode cX11_nowAt 0 = .ok (.iconst 0, 1) := by decide +kernel
theorem dX11_nowAt_1 : decode cX11_nowAt 1 = .ok (.istore_n 2, 1) := by decide +kernel
theorem dX11_nowAt_2 : decode cX11_nowAt 2 = .ok (.iload_n 2, 1) := by decide +kernel
theorem dX11_nowAt_3 : decode cX11_nowAt 3 = .ok (.aload_n 0, 1) := by decide +kernel
theorem dX11_nowAt_4 : decode cX11_nowAt 4 = .ok (.invokevirtual 207, 3) := by decide +kernel
theorem dX11_nowAt_7 : decode cX11_nowAt 7 = .ok (.if_icmp .ge 35, 3) := by decide +kernel
theorem dX11_nowAt_10 : decode cX11_nowAt 10 = .ok (.aload_n 0, 1) := by decide +kernel
theorem dX11_nowAt_11 : decode cX11_nowAt 11 = .ok (.iload_n 2, 1) := by decide +kernel
theorem dX11_nowAt_12 : decode cX11_nowAt 12 = .ok (.bipush 11, 2) := by decide +kernel
theorem dX11_nowAt_14 : decode cX11_nowAt 14 = .ok (.invokevirtual 210, 3) := by decide +kernel
theorem dX11_nowAt_17 : decode cX11_nowAt 17 = .ok (.i2l, 1) := by decide +kernel
theorem dX11_nowAt_18 : decode cX11_nowAt 18 = .ok (.aload_n 0, 1) := by decide +kernel
theorem dX11_nowAt_19 : decode cX11_nowAt 19 = .ok (.getfield 9, 3) := by decide +kernel
theorem dX11_nowAt_22 : decode cX11_nowAt 22 = .ok (.sipush 411, 3) := by decide +kernel
theorem dX11_nowAt_25 : decode cX11_nowAt 25 = .ok (.iconst 2, 1) := by decide +kernel
theorem dX11_nowAt_26 : decode cX11_nowAt 26 = .ok (.iload_n 1, 1) := by decide +kernel
theorem dX11_nowAt_27 : decode cX11_nowAt 27 = .ok (.imul, 1) := by decide +kernel
theorem dX11_nowAt_28 : decode cX11_nowAt 28 = .ok (.iadd, 1) := by decide +kernel
theorem dX11_nowAt_29 : decode cX11_nowAt 29 = .ok (.laload, 1) := by decide +kernel
theorem dX11_nowAt_30 : decode cX11_nowAt 30 = .ok (.lcmp, 1) := by decide +kernel
theorem dX11_nowAt_31 : decode cX11_nowAt 31 = .ok (.ifCond .ne 5, 3) := by decide +kernel
theorem dX11_nowAt_34 : decode cX11_nowAt 34 = .ok (.iload_n 2, 1) := by decide +kernel
theorem dX11_nowAt_35 : decode cX11_nowAt 35 = .ok (.ireturn, 1) := by decide +kernel
theorem dX11_nowAt_36 : decode cX11_nowAt 36 = .ok (.iinc 2 1, 3) := by decide +kernel
theorem dX11_nowAt_39 : decode cX11_nowAt 39 = .ok (.goto (-37), 3) := by decide +kernel
theorem dX11_nowAt_42 : decode cX11_nowAt 42 = .ok (.iconst (-1), 1) := by decide +kernel
theorem dX11_nowAt_43 : decode cX11_nowAt 43 = .ok (.ireturn, 1) := by decide +kernel
set_option maxRecDepth 100000 in
theorem ggX11_carried_X11_keptTime : GoodIn wsX11_carried wsX11_keptTime := goodIn_r _ [7, 1, 27, 28, 29, 30, 31, 32, 33, 34, 35, 36, 37, 38, 39, 40, 41, 42, 43, 44, 45, 46, 47, 48, 49, 50, 51, 52, 53] rfl (by decide +kernel)
set_option maxRecDepth 100000 in
theorem gX11_carried_X11_keptTime : GoodIn wsX11_carried (wsV RX11 336 RX11 yX11_keptTime wsX11_keptTime) := goodIn_app (goodIn_of _ (by decide +kernel)) ggX11_carried_X11_keptTime
set_option maxRecDepth 100000 in
theorem ggX11_carried_X11_isIn : GoodIn wsX11_carried wsX11_isIn := goodIn_r _ [10] rfl (by decide +kernel)
set_option maxRecDepth 100000 in
theorem gX11_carried_X11_isIn : GoodIn wsX11_carried (va_wsS RX11 95 yX11_isIn wsX11_isIn) := goodIn_app (goodIn_of _ (by decide +kernel)) ggX11_carried_X11_isIn
set_option maxRecDepth 100000 in
theorem ggX11_carried_X11_nowAt : GoodIn wsX11_carried wsX11_nowAt := goodIn_r _ [14, 1, 15, 16, 17, 6, 18, 19, 20, 21, 22, 27, 28, 29, 30, 31, 32, 33, 34, 35, 36, 37, 38, 39, 40, 41, 42, 43, 44, 45, 46, 47, 48, 49, 50, 51, 52, 53] rfl (by decide +kernel)
set_option maxRecDepth 100000 in
theorem gX11_carried_X11_nowAt : GoodIn wsX11_carried (wsV RX11 339 RX11 yX11_nowAt wsX11_nowAt) := goodIn_app (goodIn_of _ (by decide +kernel)) ggX11_carried_X11_nowAt
set_option maxRecDepth 100000 in
theorem ggX11_carried_X11_spoken : GoodIn wsX11_carried wsX11_spoken := goodIn_r _ [26, 19, 20, 21, 6, 22, 1, 27, 28, 29, 30, 31, 32, 33, 34, 35, 36, 37, 38, 39, 40, 41, 42, 43, 44, 45, 46, 47, 48, 49, 50, 51, 52, 53] rfl (by decide +kernel)
set_option maxRecDepth 100000 in
theorem gX11_carried_X11_spoken : GoodIn wsX11_carried (wsV RX11 216 RX11 yX11_spoken wsX11_spoken) := goodIn_app (goodIn_of _ (by decide +kernel)) ggX11_carried_X11_spoken
set_option maxRecDepth 100000 in
theorem ggX11_carried_X11_of : GoodIn wsX11_carried wsX11_of := goodIn_r _ [22, 1, 27, 28, 29, 30, 31, 32, 33, 34, 35, 36, 37, 38, 39, 40, 41, 42, 43, 44, 45, 46, 47, 48, 49, 50, 51, 52, 53] rfl (by decide +kernel)
set_option maxRecDepth 100000 in
theorem gX11_carried_X11_of : GoodIn wsX11_carried (wsV RX11 210 RX11 yX11_of wsX11_of) := goodIn_app (goodIn_of _ (by decide +kernel)) ggX11_carried_X11_of
set_option maxRecDepth 100000 in
theorem ggX11_carried_X11_many : GoodIn wsX11_carried wsX11_many := goodIn_r _ [18, 1, 27, 28, 29, 30, 31, 32, 33, 34, 35, 36, 37, 38, 39, 40, 41, 42, 43, 44, 45, 46, 47, 48, 49, 50, 51, 52, 53] rfl (by decide +kernel)
set_option maxRecDepth 100000 in
theorem gX11_carried_X11_many : GoodIn wsX11_carried (wsV RX11 207 RX11 yX11_many wsX11_many) := goodIn_app (goodIn_of _ (by decide +kernel)) ggX11_carried_X11_many
theorem dX11_carried_0 : decode cX11_carried 0 = .ok (.aload_n 0, 1) := by decide +kernel
theorem dX11_carried_1 : decode cX11_carried 1 = .ok (.aload_n 0, 1) := by decide +kernel
theorem dX11_carried_2 : decode cX11_carried 2 = .ok (.getfield 9, 3) := by decide +kernel
theorem dX11_carried_5 : decode cX11_carried 5 = .ok (.sipush 409, 3) := by decide +kernel
theorem dX11_carried_8 : decode cX11_carried 8 = .ok (.laload, 1) := by decide +kernel
theorem dX11_carried_9 : decode cX11_carried 9 = .ok (.lconst 0, 1) := by decide +kernel
theorem dX11_carried_10 : decode cX11_carried 10 = .ok (.lcmp, 1) := by decide +kernel
theorem dX11_carried_11 : decode cX11_carried 11 = .ok (.ifCond .ne 7, 3) := by decide +kernel
theorem dX11_carried_14 : decode cX11_carried 14 = .ok (.iconst 1, 1) := by decide +kernel
theorem dX11_carried_15 : decode cX11_carried 15 = .ok (.goto 24, 3) := by decide +kernel
theorem dX11_carried_18 : decode cX11_carried 18 = .ok (.iload_n 1, 1) := by decide +kernel
theorem dX11_carried_19 : decode cX11_carried 19 = .ok (.i2l, 1) := by decide +kernel
theorem dX11_carried_20 : decode cX11_carried 20 = .ok (.lconst 0, 1) := by decide +kernel
theorem dX11_carried_21 : decode cX11_carried 21 = .ok (.aload_n 0, 1) := by decide +kernel
theorem dX11_carried_22 : decode cX11_carried 22 = .ok (.invokevirtual 336, 3) := by decide +kernel
theorem dX11_carried_25 : decode cX11_carried 25 = .ok (.iconst 1, 1) := by decide +kernel
theorem dX11_carried_26 : decode cX11_carried 26 = .ok (.isub, 1) := by decide +kernel
theorem dX11_carried_27 : decode cX11_carried 27 = .ok (.i2l, 1) := by decide +kernel
theorem dX11_carried_28 : decode cX11_carried 28 = .ok (.invokestatic 95, 3) := by decide +kernel
theorem dX11_carried_31 : decode cX11_carried 31 = .ok (.ifCond .eq 7, 3) := by decide +kernel
theorem dX11_carried_34 : decode cX11_carried 34 = .ok (.iconst 0, 1) := by decide +kernel
theorem dX11_carried_35 : decode cX11_carried 35 = .ok (.goto 4, 3) := by decide +kernel
theorem dX11_carried_38 : decode cX11_carried 38 = .ok (.iconst 2, 1) := by decide +kernel
theorem dX11_carried_39 : decode cX11_carried 39 = .ok (.putfield 79, 3) := by decide +kernel
theorem dX11_carried_42 : decode cX11_carried 42 = .ok (.aload_n 0, 1) := by decide +kernel
theorem dX11_carried_43 : decode cX11_carried 43 = .ok (.getfield 79, 3) := by decide +kernel
theorem dX11_carried_46 : decode cX11_carried 46 = .ok (.ifCond .le 5, 3) := by decide +kernel
theorem dX11_carried_49 : decode cX11_carried 49 = .ok (.iconst 0, 1) := by decide +kernel
theorem dX11_carried_50 : decode cX11_carried 50 = .ok (.ireturn, 1) := by decide +kernel
theorem dX11_carried_51 : decode cX11_carried 51 = .ok (.iconst 0, 1) := by decide +kernel
theorem dX11_carried_52 : decode cX11_carried 52 = .ok (.istore_n 2, 1) := by decide +kernel
theorem dX11_carried_53 : decode cX11_carried 53 = .ok (.iload_n 1, 1) := by decide +kernel
theorem dX11_carried_54 : decode cX11_carried 54 = .ok (.istore_n 3, 1) := by decide +kernel
theorem dX11_carried_55 : decode cX11_carried 55 = .ok (.iload_n 3, 1) := by decide +kernel
theorem dX11_carried_56 : decode cX11_carried 56 = .ok (.i2l, 1) := by decide +kernel
theorem dX11_carried_57 : decode cX11_carried 57 = .ok (.aload_n 0, 1) := by decide +kernel
theorem dX11_carried_58 : decode cX11_carried 58 = .ok (.getfield 9, 3) := by decide +kernel
theorem dX11_carried_61 : decode cX11_carried 61 = .ok (.sipush 411, 3) := by decide +kernel
theorem dX11_carried_64 : decode cX11_carried 64 = .ok (.iconst 2, 1) := by decide +kernel
theorem dX11_carried_65 : decode cX11_carried 65 = .ok (.iload_n 2, 1) := by decide +kernel
theorem dX11_carried_66 : decode cX11_carried 66 = .ok (.imul, 1) := by decide +kernel
theorem dX11_carried_67 : decode cX11_carried 67 = .ok (.iadd, 1) := by decide +kernel
theorem dX11_carried_68 : decode cX11_carried 68 = .ok (.iconst 1, 1) := by decide +kernel
theorem dX11_carried_69 : decode cX11_carried 69 = .ok (.iadd, 1) := by decide +kernel
theorem dX11_carried_70 : decode cX11_carried 70 = .ok (.laload, 1) := by decide +kernel
theorem dX11_carried_71 : decode cX11_carried 71 = .ok (.lcmp, 1) := by decide +kernel
theorem dX11_carried_72 : decode cX11_carried 72 = .ok (.ifCond .lt 27, 3) := by decide +kernel
theorem dX11_carried_75 : decode cX11_carried 75 = .ok (.iload_n 3, 1) := by decide +kernel
theorem dX11_carried_76 : decode cX11_carried 76 = .ok (.aload_n 0, 1) := by decide +kernel
theorem dX11_carried_77 : decode cX11_carried 77 = .ok (.getfield 9, 3) := by decide +kernel
theorem dX11_carried_80 : decode cX11_carried 80 = .ok (.sipush 411, 3) := by decide +kernel
theorem dX11_carried_83 : decode cX11_carried 83 = .ok (.iconst 2, 1) := by decide +kernel
theorem dX11_carried_84 : decode cX11_carried 84 = .ok (.iload_n 2, 1) := by decide +kernel
theorem dX11_carried_85 : decode cX11_carried 85 = .ok (.imul, 1) := by decide +kernel
theorem dX11_carried_86 : decode cX11_carried 86 = .ok (.iadd, 1) := by decide +kernel
theorem dX11_carried_87 : decode cX11_carried 87 = .ok (.iconst 1, 1) := by decide +kernel
theorem dX11_carried_88 : decode cX11_carried 88 = .ok (.iadd, 1) := by decide +kernel
theorem dX11_carried_89 : decode cX11_carried 89 = .ok (.laload, 1) := by decide +kernel
theorem dX11_carried_90 : decode cX11_carried 90 = .ok (.l2i, 1) := by decide +kernel
theorem dX11_carried_91 : decode cX11_carried 91 = .ok (.isub, 1) := by decide +kernel
theorem dX11_carried_92 : decode cX11_carried 92 = .ok (.istore_n 3, 1) := by decide +kernel
theorem dX11_carried_93 : decode cX11_carried 93 = .ok (.iinc 2 1, 3) := by decide +kernel
theorem dX11_carried_96 : decode cX11_carried 96 = .ok (.goto (-41), 3) := by decide +kernel
theorem dX11_carried_99 : decode cX11_carried 99 = .ok (.aload_n 0, 1) := by decide +kernel
theorem dX11_carried_100 : decode cX11_carried 100 = .ok (.iload_n 2, 1) := by decide +kernel
theorem dX11_carried_101 : decode cX11_carried 101 = .ok (.invokevirtual 339, 3) := by decide +kernel
theorem dX11_carried_104 : decode cX11_carried 104 = .ok (.istore 4, 2) := by decide +kernel
theorem dX11_carried_106 : decode cX11_carried 106 = .ok (.iload 4, 2) := by decide +kernel
theorem dX11_carried_108 : decode cX11_carried 108 = .ok (.iconst (-1), 1) := by decide +kernel
theorem dX11_carried_109 : decode cX11_carried 109 = .ok (.if_icmp .eq 33, 3) := by decide +kernel
theorem dX11_carried_112 : decode cX11_carried 112 = .ok (.aload_n 0, 1) := by decide +kernel
theorem dX11_carried_113 : decode cX11_carried 113 = .ok (.iload 4, 2) := by decide +kernel
theorem dX11_carried_115 : decode cX11_carried 115 = .ok (.invokevirtual 216, 3) := by decide +kernel
theorem dX11_carried_118 : decode cX11_carried 118 = .ok (.iload_n 3, 1) := by decide +kernel
theorem dX11_carried_119 : decode cX11_carried 119 = .ok (.aload_n 0, 1) := by decide +kernel
theorem dX11_carried_120 : decode cX11_carried 120 = .ok (.iload 4, 2) := by decide +kernel
theorem dX11_carried_122 : decode cX11_carried 122 = .ok (.iconst 0, 1) := by decide +kernel
theorem dX11_carried_123 : decode cX11_carried 123 = .ok (.invokevirtual 210, 3) := by decide +kernel
theorem dX11_carried_126 : decode cX11_carried 126 = .ok (.if_icmp .ge 7, 3) := by decide +kernel
theorem dX11_carried_129 : decode cX11_carried 129 = .ok (.iload_n 3, 1) := by decide +kernel
theorem dX11_carried_130 : decode cX11_carried 130 = .ok (.goto 10, 3) := by decide +kernel
theorem dX11_carried_133 : decode cX11_carried 133 = .ok (.aload_n 0, 1) := by decide +kernel
theorem dX11_carried_134 : decode cX11_carried 134 = .ok (.iload 4, 2) := by decide +kernel
theorem dX11_carried_136 : decode cX11_carried 136 = .ok (.iconst 0, 1) := by decide +kernel
theorem dX11_carried_137 : decode cX11_carried 137 = .ok (.invokevirtual 210, 3) := by decide +kernel
theorem dX11_carried_140 : decode cX11_carried 140 = .ok (.iadd, 1) := by decide +kernel
theorem dX11_carried_141 : decode cX11_carried 141 = .ok (.ireturn, 1) := by decide +kernel
theorem dX11_carried_142 : decode cX11_carried 142 = .ok (.iload_n 2, 1) := by decide +kernel
theorem dX11_carried_143 : decode cX11_carried 143 = .ok (.iconst 1, 1) := by decide +kernel
theorem dX11_carried_144 : decode cX11_carried 144 = .ok (.iadd, 1) := by decide +kernel
theorem dX11_carried_145 : decode cX11_carried 145 = .ok (.istore 5, 2) := by decide +kernel
theorem dX11_carried_147 : decode cX11_carried 147 = .ok (.iload 5, 2) := by decide +kernel
theorem dX11_carried_149 : decode cX11_carried 149 = .ok (.i2l, 1) := by decide +kernel
theorem dX11_carried_150 : decode cX11_carried 150 = .ok (.aload_n 0, 1) := by decide +kernel
theorem dX11_carried_151 : decode cX11_carried 151 = .ok (.getfield 9, 3) := by decide +kernel
theorem dX11_carried_154 : decode cX11_carried 154 = .ok (.sipush 410, 3) := by decide +kernel
theorem dX11_carried_157 : decode cX11_carried 157 = .ok (.laload, 1) := by decide +kernel
theorem dX11_carried_158 : decode cX11_carried 158 = .ok (.lcmp, 1) := by decide +kernel
theorem dX11_carried_159 : decode cX11_carried 159 = .ok (.ifCond .ge 30, 3) := by decide +kernel
theorem dX11_carried_162 : decode cX11_carried 162 = .ok (.aload_n 0, 1) := by decide +kernel
theorem dX11_carried_163 : decode cX11_carried 163 = .ok (.iload 5, 2) := by decide +kernel
theorem dX11_carried_165 : decode cX11_carried 165 = .ok (.invokevirtual 339, 3) := by decide +kernel
theorem dX11_carried_168 : decode cX11_carried 168 = .ok (.iconst (-1), 1) := by decide +kernel
theorem dX11_carried_169 : decode cX11_carried 169 = .ok (.if_icmp .eq 14, 3) := by decide +kernel
theorem dX11_carried_172 : decode cX11_carried 172 = .ok (.aload_n 0, 1) := by decide +kernel
theorem dX11_carried_173 : decode cX11_carried 173 = .ok (.aload_n 0, 1) := by decide +kernel
theorem dX11_carried_174 : decode cX11_carried 174 = .ok (.iload 5, 2) := by decide +kernel
theorem dX11_carried_176 : decode cX11_carried 176 = .ok (.invokevirtual 339, 3) := by decide +kernel
theorem dX11_carried_179 : decode cX11_carried 179 = .ok (.invokevirtual 216, 3) := by decide +kernel
theorem dX11_carried_182 : decode cX11_carried 182 = .ok (.ireturn, 1) := by decide +kernel
theorem dX11_carried_183 : decode cX11_carried 183 = .ok (.iinc 5 1, 3) := by decide +kernel
theorem dX11_carried_186 : decode cX11_carried 186 = .ok (.goto (-39), 3) := by decide +kernel
theorem dX11_carried_189 : decode cX11_carried 189 = .ok (.aload_n 0, 1) := by decide +kernel
theorem dX11_carried_190 : decode cX11_carried 190 = .ok (.aload_n 0, 1) := by decide +kernel
theorem dX11_carried_191 : decode cX11_carried 191 = .ok (.invokevirtual 207, 3) := by decide +kernel
theorem dX11_carried_194 : decode cX11_carried 194 = .ok (.invokevirtual 216, 3) := by decide +kernel
theorem dX11_carried_197 : decode cX11_carried 197 = .ok (.ireturn, 1) := by decide +kernel
theorem dX11_says_0 : decode cX11_says 0 = .ok (.aload_n 0, 1) := by decide +kernel
theorem dX11_says_1 : decode cX11_says 1 = .ok (.getfield 58, 3) := by decide +kernel
theorem dX11_says_4 : decode cX11_says 4 = .ok (.aload_n 0, 1) := by decide +kernel
theorem dX11_says_5 : decode cX11_says 5 = .ok (.getfield 342, 3) := by decide +kernel
theorem dX11_says_8 : decode cX11_says 8 = .ok (.iload_n 1, 1) := by decide +kernel
theorem dX11_says_9 : decode cX11_says 9 = .ok (.iastore, 1) := by decide +kernel
theorem dX11_says_10 : decode cX11_says 10 = .ok (.aload_n 0, 1) := by decide +kernel
theorem dX11_says_11 : decode cX11_says 11 = .ok (.dup, 1) := by decide +kernel
theorem dX11_says_12 : decode cX11_says 12 = .ok (.getfield 342, 3) := by decide +kernel
theorem dX11_says_15 : decode cX11_says 15 = .ok (.iconst 1, 1) := by decide +kernel
theorem dX11_says_16 : decode cX11_says 16 = .ok (.iadd, 1) := by decide +kernel
theorem dX11_says_17 : decode cX11_says 17 = .ok (.putfield 342, 3) := by decide +kernel
theorem dX11_says_20 : decode cX11_says 20 = .ok (.return_, 1) := by decide +kernel
set_option maxRecDepth 100000 in
theorem ggX11_saysName_X11_saysName : GoodIn wsX11_saysName wsX11_saysName := goodIn_r _ [0, 1, 2, 3, 4, 5, 6, 7, 8, 9, 10, 11, 12, 13, 14, 15, 16, 17, 18, 19, 20, 21, 22, 23, 24, 25, 26, 27, 28, 29, 30, 31, 32, 33, 34, 35, 36, 37, 38] rfl (by decide +kernel)
set_option maxRecDepth 100000 in
theorem gX11_saysName_X11_saysName : GoodIn wsX11_saysName (wsV RX11 345 RX11 yX11_saysName wsX11_saysName) := goodIn_app (goodIn_of _ (by decide +kernel)) ggX11_saysName_X11_saysName
set_option maxRecDepth 100000 in
theorem ggX11_saysName_X11_says : GoodIn wsX11_saysName wsX11_says := goodIn_r _ [9, 10, 11, 12, 13, 14, 15, 16, 17, 18, 19, 20, 21, 22, 23, 24, 25, 26, 27, 28, 29, 30, 31, 32, 33, 34, 35, 36, 37, 38] rfl (by decide +kernel)
set_option maxRecDepth 100000 in
theorem gX11_saysName_X11_says : GoodIn wsX11_saysName (wsV RX11 349 RX11 yX11_says wsX11_says) := goodIn_app (goodIn_of _ (by decide +kernel)) ggX11_saysName_X11_says
theorem dX11_saysName_0 : decode cX11_saysName 0 = .ok (.lload_n 1, 1) := by decide +kernel
theorem dX11_saysName_1 : decode cX11_saysName 1 = .ok (.ldc2_w 156, 3) := by decide +kernel
theorem dX11_saysName_4 : decode cX11_saysName 4 = .ok (.lcmp, 1) := by decide +kernel
theorem dX11_saysName_5 : decode cX11_saysName 5 = .ok (.ifCond .lt 12, 3) := by decide +kernel
theorem dX11_saysName_8 : decode cX11_saysName 8 = .ok (.aload_n 0, 1) := by decide +kernel
theorem dX11_saysName_9 : decode cX11_saysName 9 = .ok (.lload_n 1, 1) := by decide +kernel
theorem dX11_saysName_10 : decode cX11_saysName 10 = .ok (.ldc2_w 156, 3) := by decide +kernel
theorem dX11_saysName_13 : decode cX11_saysName 13 = .ok (.ldiv, 1) := by decide +kernel
theorem dX11_saysName_14 : decode cX11_saysName 14 = .ok (.invokevirtual 345, 3) := by decide +kernel
theorem dX11_saysName_17 : decode cX11_saysName 17 = .ok (.aload_n 0, 1) := by decide +kernel
theorem dX11_saysName_18 : decode cX11_saysName 18 = .ok (.lload_n 1, 1) := by decide +kernel
theorem dX11_saysName_19 : decode cX11_saysName 19 = .ok (.ldc2_w 156, 3) := by decide +kernel
theorem dX11_saysName_22 : decode cX11_saysName 22 = .ok (.lrem, 1) := by decide +kernel
theorem dX11_saysName_23 : decode cX11_saysName 23 = .ok (.l2i, 1) := by decide +kernel
theorem dX11_saysName_24 : decode cX11_saysName 24 = .ok (.bipush 96, 2) := by decide +kernel
theorem dX11_saysName_26 : decode cX11_saysName 26 = .ok (.iadd, 1) := by decide +kernel
theorem dX11_saysName_27 : decode cX11_saysName 27 = .ok (.invokevirtual 349, 3) := by decide +kernel
theorem dX11_saysName_30 : decode cX11_saysName 30 = .ok (.return_, 1) := by decide +kernel
set_option maxRecDepth 100000 in
theorem ggX11_saysNumber_X11_saysNumber : GoodIn wsX11_saysNumber wsX11_saysNumber := goodIn_r _ [0, 1, 2, 3, 4, 5, 6, 7, 8, 9, 10, 11, 12, 13, 14, 15, 16, 17, 18, 19, 20, 21, 22, 23, 24, 25, 26, 27, 28, 29, 30, 31, 32, 33, 34, 35, 36, 37] rfl (by decide +kernel)
set_option maxRecDepth 100000 in
theorem gX11_saysNumber_X11_saysNumber : GoodIn wsX11_saysNumber (wsV RX11 352 RX11 yX11_saysNumber wsX11_saysNumber) := goodIn_app (goodIn_of _ (by decide +kernel)) ggX11_saysNumber_X11_saysNumber
set_option maxRecDepth 100000 in
theorem ggX11_saysNumber_X11_says : GoodIn wsX11_saysNumber wsX11_says := goodIn_r _ [8, 9, 10, 11, 12, 13, 14, 15, 16, 17, 18, 19, 20, 21, 22, 23, 24, 25, 26, 27, 28, 29, 30, 31, 32, 33, 34, 35, 36, 37] rfl (by decide +kernel)
set_option maxRecDepth 100000 in
theorem gX11_saysNumber_X11_says : GoodIn wsX11_saysNumber (wsV RX11 349 RX11 yX11_says wsX11_says) := goodIn_app (goodIn_of _ (by decide +kernel)) ggX11_saysNumber_X11_says
theorem dX11_saysNumber_0 : decode cX11_saysNumber 0 = .ok (.iload_n 1, 1) := by decide +kernel
theorem dX11_saysNumber_1 : decode cX11_saysNumber 1 = .ok (.bipush 9, 2) := by decide +kernel
theorem dX11_saysNumber_3 : decode cX11_saysNumber 3 = .ok (.if_icmp .le 11, 3) := by decide +kernel
theorem dX11_saysNumber_6 : decode cX11_saysNumber 6 = .ok (.aload_n 0, 1) := by decide +kernel
theorem dX11_saysNumber_7 : decode cX11_saysNumber 7 = .ok (.iload_n 1, 1) := by decide +kernel
theorem dX11_saysNumber_8 : decode cX11_saysNumber 8 = .ok (.bipush 10, 2) := by decide +kernel
theorem dX11_saysNumber_10 : decode cX11_saysNumber 10 = .ok (.idiv, 1) := by decide +kernel
theorem dX11_saysNumber_11 : decode cX11_saysNumber 11 = .ok (.invokevirtual 352, 3) := by decide +kernel
theorem dX11_saysNumber_14 : decode cX11_saysNumber 14 = .ok (.aload_n 0, 1) := by decide +kernel
theorem dX11_saysNumber_15 : decode cX11_saysNumber 15 = .ok (.bipush 48, 2) := by decide +kernel
theorem dX11_saysNumber_17 : decode cX11_saysNumber 17 = .ok (.iload_n 1, 1) := by decide +kernel
theorem dX11_saysNumber_18 : decode cX11_saysNumber 18 = .ok (.bipush 10, 2) := by decide +kernel
theorem dX11_saysNumber_20 : decode cX11_saysNumber 20 = .ok (.irem, 1) := by decide +kernel
theorem dX11_saysNumber_21 : decode cX11_saysNumber 21 = .ok (.iadd, 1) := by decide +kernel
theorem dX11_saysNumber_22 : decode cX11_saysNumber 22 = .ok (.invokevirtual 349, 3) := by decide +kernel
theorem dX11_saysNumber_25 : decode cX11_saysNumber 25 = .ok (.return_, 1) := by decide +kernel
set_option maxRecDepth 100000 in
theorem ggX11_writeChapters_X11_hasBest : GoodIn wsX11_writeChapters wsX11_hasBest := goodIn_r _ [9, 10, 11, 12, 13, 14, 8, 15, 16, 17, 18, 19, 20, 21, 4, 22, 23, 24, 25, 26, 27, 28, 29, 30, 31, 32, 33, 34, 35, 36, 37, 38, 39, 40, 41, 42, 43, 44, 45, 46, 47, 48, 49, 50, 51, 52, 53, 54, 3, 55, 129, 130, 131, 132, 133, 134, 135, 136, 137, 138, 139, 140, 141, 142, 143, 144, 145, 146, 147, 148, 149, 150, 151, 152, 153, 154, 155] rfl (by decide +kernel)
set_option maxRecDepth 100000 in
theorem gX11_writeChapters_X11_hasBest : GoodIn wsX11_writeChapters (wsV RX11 273 RX11 yX11_hasBest wsX11_hasBest) := goodIn_app (goodIn_of _ (by decide +kernel)) ggX11_writeChapters_X11_hasBest
set_option maxRecDepth 100000 in
theorem ggX11_writeChapters_X11_beginOf : GoodIn wsX11_writeChapters wsX11_beginOf := goodIn_r _ [59, 55, 129, 130, 131, 132, 133, 134, 135, 136, 137, 138, 139, 140, 141, 142, 143, 144, 145, 146, 147, 148, 149, 150, 151, 152, 153, 154, 155] rfl (by decide +kernel)
set_option maxRecDepth 100000 in
theorem gX11_writeChapters_X11_beginOf : GoodIn wsX11_writeChapters (wsV RX11 280 RX11 yX11_beginOf wsX11_beginOf) := goodIn_app (goodIn_of _ (by decide +kernel)) ggX11_writeChapters_X11_beginOf
set_option maxRecDepth 100000 in
theorem ggX11_writeChapters_X11_realTime : GoodIn wsX11_writeChapters wsX11_realTime := goodIn_r _ [63, 4, 64, 44, 45, 46, 8, 47, 34, 35, 36, 37, 65, 66, 67, 68, 69, 70, 71, 72, 73, 74, 3, 55, 5, 6, 7, 9, 10, 11, 12, 13, 14, 15, 16, 17, 18, 19, 20, 21, 22, 23, 24, 25, 26, 27, 28, 29, 30, 31, 32, 33, 38, 39, 40, 41, 42, 43, 48, 49, 50, 51, 52, 53, 54, 56, 57, 58, 59, 75, 76, 77, 78, 79, 80, 81, 82, 83, 84, 85, 86, 87, 88, 89, 90, 91, 92, 93, 94, 95, 96, 97, 98, 99, 129, 130, 131, 132, 133, 134, 135, 136, 137, 138, 139, 140, 141, 142, 143, 144, 145, 146, 147, 148, 149, 150, 151, 152, 153, 154, 155] rfl (by decide +kernel)
set_option maxRecDepth 100000 in
theorem gX11_writeChapters_X11_realTime : GoodIn wsX11_writeChapters (wsV RX11 230 RX11 yX11_realTime wsX11_realTime) := goodIn_app (goodIn_of _ (by decide +kernel)) ggX11_writeChapters_X11_realTime
set_option maxRecDepth 100000 in
theorem ggX11_writeChapters_X11_saysNumber : GoodIn wsX11_writeChapters wsX11_saysNumber := goodIn_r _ [103, 100, 101, 102, 8, 104, 105, 106, 107, 108, 2, 129, 130, 131, 132, 133, 134, 135, 136, 137, 138, 139, 140, 141, 142, 143, 144, 145, 146, 147, 148, 149, 150, 151, 152, 153, 154, 155] rfl (by decide +kernel)
set_option maxRecDepth 100000 in
theorem gX11_writeChapters_X11_saysNumber : GoodIn wsX11_writeChapters (wsV RX11 352 RX11 yX11_saysNumber wsX11_saysNumber) := goodIn_app (goodIn_of _ (by decide +kernel)) ggX11_writeChapters_X11_saysNumber
set_option maxRecDepth 100000 in
theorem ggX11_writeChapters_X11_says : GoodIn wsX11_writeChapters wsX11_says := goodIn_r _ [107, 108, 2, 129, 130, 131, 132, 133, 134, 135, 136, 137, 138, 139, 140, 141, 142, 143, 144, 145, 146, 147, 148, 149, 150, 151, 152, 153, 154, 155] rfl (by decide +kernel)
set_option maxRecDepth 100000 in
theorem gX11_writeChapters_X11_says : GoodIn wsX11_writeChapters (wsV RX11 349 RX11 yX11_says wsX11_says) := goodIn_app (goodIn_of _ (by decide +kernel)) ggX11_writeChapters_X11_says
set_option maxRecDepth 100000 in
theorem ggX11_writeChapters_X11_titleWord : GoodIn wsX11_writeChapters wsX11_titleWord := goodIn_r _ [112, 4, 113, 114, 8, 115, 116, 117, 118, 119, 55, 56, 57, 58, 59, 30, 31, 32, 33, 34, 35, 36, 37, 120, 121, 122, 123, 3, 129, 130, 131, 132, 133, 134, 135, 136, 137, 138, 139, 140, 141, 142, 143, 144, 145, 146, 147, 148, 149, 150, 151, 152, 153, 154, 155] rfl (by decide +kernel)
set_option maxRecDepth 100000 in
theorem gX11_writeChapters_X11_titleWord : GoodIn wsX11_writeChapters (wsV RX11 301 RX11 yX11_titleWord wsX11_titleWord) := goodIn_app (goodIn_of _ (by decide +kernel)) ggX11_writeChapters_X11_titleWord
set_option maxRecDepth 100000 in
theorem ggX11_writeChapters_X11_saysName : GoodIn wsX11_writeChapters wsX11_saysName := goodIn_r _ [127, 128, 124, 125, 126, 8, 104, 105, 106, 107, 108, 2, 129, 130, 131, 132, 133, 134, 135, 136, 137, 138, 139, 140, 141, 142, 143, 144, 145, 146, 147, 148, 149, 150, 151, 152, 153, 154, 155] rfl (by decide +kernel)
set_option maxRecDepth 100000 in
theorem gX11_writeChapters_X11_saysName : GoodIn wsX11_writeChapters (wsV RX11 345 RX11 yX11_saysName wsX11_saysName) := goodIn_app (goodIn_of _ (by decide +kernel)) ggX11_writeChapters_X11_saysName
theorem dX11_writeChapters_0 : decode cX11_writeChapters 0 = .ok (.aload_n 0, 1) := by decide +kernel
theorem dX11_writeChapters_1 : decode cX11_writeChapters 1 = .ok (.aload_n 0, 1) := by decide +kernel
theorem dX11_writeChapters_2 : decode cX11_writeChapters 2 = .ok (.invokevirtual 273, 3) := by decide +kernel
theorem dX11_writeChapters_5 : decode cX11_writeChapters 5 = .ok (.ifCond .eq 7, 3) := by decide +kernel
theorem dX11_writeChapters_8 : decode cX11_writeChapters 8 = .ok (.iconst 0, 1) := by decide +kernel
theorem dX11_writeChapters_9 : decode cX11_writeChapters 9 = .ok (.goto 4, 3) := by decide +kernel
theorem dX11_writeChapters_12 : decode cX11_writeChapters 12 = .ok (.iconst 1, 1) := by decide +kernel
theorem dX11_writeChapters_13 : decode cX11_writeChapters 13 = .ok (.putfield 79, 3) := by decide +kernel
theorem dX11_writeChapters_16 : decode cX11_writeChapters 16 = .ok (.aload_n 0, 1) := by decide +kernel
theorem dX11_writeChapters_17 : decode cX11_writeChapters 17 = .ok (.getfield 79, 3) := by decide +kernel
theorem dX11_writeChapters_20 : decode cX11_writeChapters 20 = .ok (.ifCond .le 5, 3) := by decide +kernel
theorem dX11_writeChapters_23 : decode cX11_writeChapters 23 = .ok (.iconst 0, 1) := by decide +kernel
theorem dX11_writeChapters_24 : decode cX11_writeChapters 24 = .ok (.ireturn, 1) := by decide +kernel
theorem dX11_writeChapters_25 : decode cX11_writeChapters 25 = .ok (.aload_n 0, 1) := by decide +kernel
theorem dX11_writeChapters_26 : decode cX11_writeChapters 26 = .ok (.iconst 0, 1) := by decide +kernel
theorem dX11_writeChapters_27 : decode cX11_writeChapters 27 = .ok (.putfield 342, 3) := by decide +kernel
theorem dX11_writeChapters_30 : decode cX11_writeChapters 30 = .ok (.aload_n 0, 1) := by decide +kernel
theorem dX11_writeChapters_31 : decode cX11_writeChapters 31 = .ok (.getfield 30, 3) := by decide +kernel
theorem dX11_writeChapters_34 : decode cX11_writeChapters 34 = .ok (.iconst 0, 1) := by decide +kernel
theorem dX11_writeChapters_35 : decode cX11_writeChapters 35 = .ok (.iaload, 1) := by decide +kernel
theorem dX11_writeChapters_36 : decode cX11_writeChapters 36 = .ok (.istore_n 1, 1) := by decide +kernel
theorem dX11_writeChapters_37 : decode cX11_writeChapters 37 = .ok (.iconst 0, 1) := by decide +kernel
theorem dX11_writeChapters_38 : decode cX11_writeChapters 38 = .ok (.istore_n 2, 1) := by decide +kernel
theorem dX11_writeChapters_39 : decode cX11_writeChapters 39 = .ok (.iload_n 2, 1) := by decide +kernel
theorem dX11_writeChapters_40 : decode cX11_writeChapters 40 = .ok (.iload_n 1, 1) := by decide +kernel
theorem dX11_writeChapters_41 : decode cX11_writeChapters 41 = .ok (.if_icmp .gt 89, 3) := by decide +kernel
theorem dX11_writeChapters_44 : decode cX11_writeChapters 44 = .ok (.aload_n 0, 1) := by decide +kernel
theorem dX11_writeChapters_45 : decode cX11_writeChapters 45 = .ok (.aload_n 0, 1) := by decide +kernel
theorem dX11_writeChapters_46 : decode cX11_writeChapters 46 = .ok (.aload_n 0, 1) := by decide +kernel
theorem dX11_writeChapters_47 : decode cX11_writeChapters 47 = .ok (.iload_n 2, 1) := by decide +kernel
theorem dX11_writeChapters_48 : decode cX11_writeChapters 48 = .ok (.invokevirtual 280, 3) := by decide +kernel
theorem dX11_writeChapters_51 : decode cX11_writeChapters 51 = .ok (.invokevirtual 230, 3) := by decide +kernel
theorem dX11_writeChapters_54 : decode cX11_writeChapters 54 = .ok (.invokevirtual 352, 3) := by decide +kernel
theorem dX11_writeChapters_57 : decode cX11_writeChapters 57 = .ok (.aload_n 0, 1) := by decide +kernel
theorem dX11_writeChapters_58 : decode cX11_writeChapters 58 = .ok (.bipush 32, 2) := by decide +kernel
theorem dX11_writeChapters_60 : decode cX11_writeChapters 60 = .ok (.invokevirtual 349, 3) := by decide +kernel
theorem dX11_writeChapters_63 : decode cX11_writeChapters 63 = .ok (.iconst 0, 1) := by decide +kernel
theorem dX11_writeChapters_64 : decode cX11_writeChapters 64 = .ok (.istore_n 3, 1) := by decide +kernel
theorem dX11_writeChapters_65 : decode cX11_writeChapters 65 = .ok (.iload_n 3, 1) := by decide +kernel
theorem dX11_writeChapters_66 : decode cX11_writeChapters 66 = .ok (.iconst 3, 1) := by decide +kernel
theorem dX11_writeChapters_67 : decode cX11_writeChapters 67 = .ok (.if_icmp .ge 51, 3) := by decide +kernel
theorem dX11_writeChapters_70 : decode cX11_writeChapters 70 = .ok (.aload_n 0, 1) := by decide +kernel
theorem dX11_writeChapters_71 : decode cX11_writeChapters 71 = .ok (.iload_n 2, 1) := by decide +kernel
theorem dX11_writeChapters_72 : decode cX11_writeChapters 72 = .ok (.iload_n 3, 1) := by decide +kernel
theorem dX11_writeChapters_73 : decode cX11_writeChapters 73 = .ok (.invokevirtual 301, 3) := by decide +kernel
theorem dX11_writeChapters_76 : decode cX11_writeChapters 76 = .ok (.istore 4, 2) := by decide +kernel
theorem dX11_writeChapters_78 : decode cX11_writeChapters 78 = .ok (.iload 4, 2) := by decide +kernel
theorem dX11_writeChapters_80 : decode cX11_writeChapters 80 = .ok (.iconst (-1), 1) := by decide +kernel
theorem dX11_writeChapters_81 : decode cX11_writeChapters 81 = .ok (.if_icmp .ne 6, 3) := by decide +kernel
theorem dX11_writeChapters_84 : decode cX11_writeChapters 84 = .ok (.goto 28, 3) := by decide +kernel
theorem dX11_writeChapters_87 : decode cX11_writeChapters 87 = .ok (.iload_n 3, 1) := by decide +kernel
theorem dX11_writeChapters_88 : decode cX11_writeChapters 88 = .ok (.ifCond .le 9, 3) := by decide +kernel
theorem dX11_writeChapters_91 : decode cX11_writeChapters 91 = .ok (.aload_n 0, 1) := by decide +kernel
theorem dX11_writeChapters_92 : decode cX11_writeChapters 92 = .ok (.bipush 45, 2) := by decide +kernel
theorem dX11_writeChapters_94 : decode cX11_writeChapters 94 = .ok (.invokevirtual 349, 3) := by decide +kernel
theorem dX11_writeChapters_97 : decode cX11_writeChapters 97 = .ok (.aload_n 0, 1) := by decide +kernel
theorem dX11_writeChapters_98 : decode cX11_writeChapters 98 = .ok (.aload_n 0, 1) := by decide +kernel
theorem dX11_writeChapters_99 : decode cX11_writeChapters 99 = .ok (.getfield 9, 3) := by decide +kernel
theorem dX11_writeChapters_102 : decode cX11_writeChapters 102 = .ok (.sipush 475, 3) := by decide +kernel
theorem dX11_writeChapters_105 : decode cX11_writeChapters 105 = .ok (.iload 4, 2) := by decide +kernel
theorem dX11_writeChapters_107 : decode cX11_writeChapters 107 = .ok (.iadd, 1) := by decide +kernel
theorem dX11_writeChapters_108 : decode cX11_writeChapters 108 = .ok (.laload, 1) := by decide +kernel
theorem dX11_writeChapters_109 : decode cX11_writeChapters 109 = .ok (.invokevirtual 345, 3) := by decide +kernel
theorem dX11_writeChapters_112 : decode cX11_writeChapters 112 = .ok (.iinc 3 1, 3) := by decide +kernel
theorem dX11_writeChapters_115 : decode cX11_writeChapters 115 = .ok (.goto (-50), 3) := by decide +kernel
theorem dX11_writeChapters_118 : decode cX11_writeChapters 118 = .ok (.aload_n 0, 1) := by decide +kernel
theorem dX11_writeChapters_119 : decode cX11_writeChapters 119 = .ok (.bipush 59, 2) := by decide +kernel
theorem dX11_writeChapters_121 : decode cX11_writeChapters 121 = .ok (.invokevirtual 349, 3) := by decide +kernel
theorem dX11_writeChapters_124 : decode cX11_writeChapters 124 = .ok (.iinc 2 1, 3) := by decide +kernel
theorem dX11_writeChapters_127 : decode cX11_writeChapters 127 = .ok (.goto (-88), 3) := by decide +kernel
theorem dX11_writeChapters_130 : decode cX11_writeChapters 130 = .ok (.aload_n 0, 1) := by decide +kernel
theorem dX11_writeChapters_131 : decode cX11_writeChapters 131 = .ok (.getfield 342, 3) := by decide +kernel
theorem dX11_writeChapters_134 : decode cX11_writeChapters 134 = .ok (.ireturn, 1) := by decide +kernel
set_option maxRecDepth 100000 in
theorem ggX11_writtenByte_X11_isIn : GoodIn wsX11_writtenByte wsX11_isIn := goodIn_r _ [7] rfl (by decide +kernel)
set_option maxRecDepth 100000 in
theorem gX11_writtenByte_X11_isIn : GoodIn wsX11_writtenByte (va_wsS RX11 95 yX11_isIn wsX11_isIn) := goodIn_app (goodIn_of _ (by decide +kernel)) ggX11_writtenByte_X11_isIn
theorem dX11_writtenByte_0 : decode cX11_writtenByte 0 = .ok (.aload_n 0, 1) := by decide +kernel
theorem dX11_writtenByte_1 : decode cX11_writtenByte 1 = .ok (.iload_n 1, 1) := by decide +kernel
theorem dX11_writtenByte_2 : decode cX11_writtenByte 2 = .ok (.i2l, 1) := by decide +kernel
theorem dX11_writtenByte_3 : decode cX11_writtenByte 3 = .ok (.lconst 0, 1) := by decide +kernel
theorem dX11_writtenByte_4 : decode cX11_writtenByte 4 = .ok (.aload_n 0, 1) := by decide +kernel
theorem dX11_writtenByte_5 : decode cX11_writtenByte 5 = .ok (.getfield 342, 3) := by decide +kernel
theorem dX11_writtenByte_8 : decode cX11_writtenByte 8 = .ok (.iconst 1, 1) := by decide +kernel
theorem dX11_writtenByte_9 : decode cX11_writtenByte 9 = .ok (.isub, 1) := by decide +kernel
theorem dX11_writtenByte_10 : decode cX11_writtenByte 10 = .ok (.i2l, 1) := by decide +kernel
theorem dX11_writtenByte_11 : decode cX11_writtenByte 11 = .ok (.invokestatic 95, 3) := by decide +kernel
theorem dX11_writtenByte_14 : decode cX11_writtenByte 14 = .ok (.ifCond .eq 7, 3) := by decide +kernel
theorem dX11_writtenByte_17 : decode cX11_writtenByte 17 = .ok (.iconst 0, 1) := by decide +kernel
theorem dX11_writtenByte_18 : decode cX11_writtenByte 18 = .ok (.goto 4, 3) := by decide +kernel
theorem dX11_writtenByte_21 : decode cX11_writtenByte 21 = .ok (.iconst 1, 1) := by decide +kernel
theorem dX11_writtenByte_22 : decode cX11_writtenByte 22 = .ok (.putfield 79, 3) := by decide +kernel
theorem dX11_writtenByte_25 : decode cX11_writtenByte 25 = .ok (.aload_n 0, 1) := by decide +kernel
theorem dX11_writtenByte_26 : decode cX11_writtenByte 26 = .ok (.getfield 79, 3) := by decide +kernel
theorem dX11_writtenByte_29 : decode cX11_writtenByte 29 = .ok (.ifCond .le 7, 3) := by decide +kernel
theorem dX11_writtenByte_32 : decode cX11_writtenByte 32 = .ok (.iconst 0, 1) := by decide +kernel
theorem dX11_writtenByte_33 : decode cX11_writtenByte 33 = .ok (.goto 9, 3) := by decide +kernel
theorem dX11_writtenByte_36 : decode cX11_writtenByte 36 = .ok (.aload_n 0, 1) := by decide +kernel
theorem dX11_writtenByte_37 : decode cX11_writtenByte 37 = .ok (.getfield 58, 3) := by decide +kernel
theorem dX11_writtenByte_40 : decode cX11_writtenByte 40 = .ok (.iload_n 1, 1) := by decide +kernel
theorem dX11_writtenByte_41 : decode cX11_writtenByte 41 = .ok (.iaload, 1) := by decide +kernel
theorem dX11_writtenByte_42 : decode cX11_writtenByte 42 = .ok (.ireturn, 1) := by decide +kernel
