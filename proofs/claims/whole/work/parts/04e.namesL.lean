/-! ===== words among the tables' words, by their places ===== -/
theorem st_idx {big : List Cond} (ws : List Cond) (ps : List Nat) (hp : ws = ps.filterMap (fun i => big[i]?)) : ∀ w ∈ ws, w ∈ big := fun w h => by
  rw [hp] at h
  obtain ⟨i, _, hw⟩ := List.mem_filterMap.mp h
  exact List.mem_of_getElem? hw
theorem st_x0 : ∀ w ∈ vx_atS RX10 70 "java/lang/IllegalStateException" ["java/lang/RuntimeException", "java/lang/Exception"], w ∈ lw_tbl := st_idx _ [107, 687, 696, 701, 704, 706, 688, 689, 127, 128, 690, 695, 702, 722, 677, 723, 679, 724, 681, 691, 693, 683, 718, 719, 721, 683, 709, 710, 711, 712, 669, 712, 713, 714, 715, 671, 715, 716, 717, 718, 673, 708, 666, 667, 674, 675, 676, 678, 680, 682, 686, 685, 684] (by decide +kernel)
theorem st_x1 : ∀ w ∈ vx_atS RX10 85 "java/lang/IllegalArgumentException" ["java/lang/RuntimeException", "java/lang/Exception"], w ∈ lw_tbl := st_idx _ [107, 687, 696, 701, 704, 706, 688, 689, 127, 128, 690, 695, 702, 722, 677, 723, 679, 724, 681, 691, 693, 683, 718, 719, 721, 683, 757, 758, 759, 712, 669, 712, 713, 714, 715, 671, 715, 716, 717, 718, 673, 756, 747, 748, 749, 698, 750, 751, 752, 753, 686, 685, 754] (by decide +kernel)
theorem st_x2 : ∀ w ∈ vx_atS RX10 181 "java/lang/IndexOutOfBoundsException" ["java/lang/RuntimeException", "java/lang/Exception"], w ∈ lw_tbl := st_idx _ [107, 687, 696, 701, 704, 706, 688, 689, 127, 128, 690, 695, 702, 722, 677, 723, 679, 724, 681, 691, 693, 683, 718, 719, 721, 683, 898, 899, 900, 712, 669, 712, 713, 714, 715, 671, 715, 716, 717, 718, 673, 897, 888, 889, 890, 699, 891, 892, 893, 894, 686, 685, 895] (by decide +kernel)
theorem st_x3 : ∀ w ∈ vx_atS RX10 278 "java/util/NoSuchElementException" ["java/lang/RuntimeException", "java/lang/Exception"], w ∈ lw_tbl := st_idx _ [107, 687, 696, 701, 704, 706, 688, 689, 127, 128, 690, 695, 702, 722, 677, 723, 679, 724, 681, 691, 693, 683, 718, 719, 721, 683, 1053, 1054, 1055, 712, 669, 712, 713, 714, 715, 671, 715, 716, 717, 718, 673, 1052, 1043, 1044, 1045, 700, 1046, 1047, 1048, 1049, 686, 685, 1050] (by decide +kernel)
theorem inX0 : ∀ w ∈ wsX00, w ∈ lw_tbl := st_idx _ [349, 351, 353, 355, 357, 359, 361, 363, 365, 367, 369, 371, 373, 375, 377] (by decide +kernel)
theorem inX1 : ∀ w ∈ wsX10, w ∈ lw_tbl := st_idx _ [279, 281, 283] (by decide +kernel)
theorem inX2 : ∀ w ∈ wsX20, w ∈ lw_tbl := st_idx _ [219, 221, 223, 225, 227, 229] (by decide +kernel)
theorem inX3 : ∀ w ∈ wsX30, w ∈ lw_tbl := st_idx _ [432, 434] (by decide +kernel)
theorem inX4 : ∀ w ∈ wsX40, w ∈ lw_tbl := st_idx _ [394, 396, 398, 400, 402, 404] (by decide +kernel)
theorem inX5 : ∀ w ∈ wsX50, w ∈ lw_tbl := st_idx _ [305, 307, 309, 311, 313, 315, 317] (by decide +kernel)
theorem inX6 : ∀ w ∈ wsX60, w ∈ lw_tbl := st_idx _ [257, 259, 261, 263] (by decide +kernel)
theorem inX7 : ∀ w ∈ wsX70, w ∈ lw_tbl := st_idx _ [195, 197, 199, 201] (by decide +kernel)
theorem inX8 : ∀ w ∈ wsX80, w ∈ lw_tbl := st_idx _ [417, 419] (by decide +kernel)
theorem inX9 : ∀ w ∈ wsX90, w ∈ lw_tbl := st_idx _ [156, 158, 160, 162, 164, 166, 168, 170] (by decide +kernel)
theorem inX10 : ∀ w ∈ wsX100, w ∈ lw_tbl := st_idx _ [445, 447, 449, 451, 453, 455, 457, 459] (by decide +kernel)
theorem inX11 : ∀ w ∈ wsX110, w ∈ lw_tbl := st_idx _ [1378, 1380, 1382, 1384, 1386, 1388, 1390, 1392, 1394, 1396, 1398, 1400, 1402, 1404, 1406, 1408, 1410, 1412, 1414, 1416, 1418, 1420, 1422, 1424, 1426, 1428, 1430] (by decide +kernel)
