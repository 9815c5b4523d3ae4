/-! ===== the law's calls: the words they want, among the tables' words ===== -/
theorem goodIn_m {big ws : List Cond} (h : ∀ w ∈ ws, w ∈ big) (hg : ws.all goodWord = true) : GoodIn big ws := goodIn_sub h hg
theorem goodIn_f {big L : List Cond} (h : ∀ w ∈ L, w ∈ big) : GoodIn big (L.filter goodWord) := goodIn_sub (fun w hw => h w (List.mem_filter.mp hw).1) (List.all_eq_true.mpr (fun w hw => (List.mem_filter.mp hw).2))
def st_b : Nat → List Cond
  | 0 => k2_sels lw_privs_1
  | 1 => k2_sels lw_privs_2
  | 2 => k2_sels lw_privs_3
  | 3 => k2_sels lw_privs_4
  | 4 => k2_sels lw_privs_5
  | 5 => k2_sels lw_privs_6
  | 6 => tables_1_1
  | 7 => tables_1_2
  | 8 => tables_1_3
  | 9 => tables_1_4
  | 10 => tables_1_5
  | 11 => tables_1_6
  | 12 => tables_1_7
  | 13 => tables_1_8
  | _ => []
theorem st_bp {ys : List (MethodName × Nat)} (h : ∀ q ∈ ys, q ∈ lw_privs) : ∀ w ∈ k2_sels ys, w ∈ lw_tbl := fun w hw => by
  obtain ⟨q, hq, rfl⟩ := List.mem_map.mp hw
  exact List.mem_append_left _ (List.mem_map.mpr ⟨q, h q hq, rfl⟩)
theorem st_bm (k : Nat) (w : Cond) (h : w ∈ st_b k) : w ∈ lw_tbl := by
  match k, h with
  | 0, h => exact st_bp (fun q h => List.mem_append_left _ h) w h
  | 1, h => exact st_bp (fun q h => List.mem_append_right _ (List.mem_append_left _ h)) w h
  | 2, h => exact st_bp (fun q h => List.mem_append_right _ (List.mem_append_right _ (List.mem_append_left _ h))) w h
  | 3, h => exact st_bp (fun q h => List.mem_append_right _ (List.mem_append_right _ (List.mem_append_right _ (List.mem_append_left _ h)))) w h
  | 4, h => exact st_bp (fun q h => List.mem_append_right _ (List.mem_append_right _ (List.mem_append_right _ (List.mem_append_right _ (List.mem_append_left _ h))))) w h
  | 5, h => exact st_bp (fun q h => List.mem_append_right _ (List.mem_append_right _ (List.mem_append_right _ (List.mem_append_right _ (List.mem_append_right _ h))))) w h
  | 6, h => exact List.mem_append_right _ (List.mem_append_left _ h)
  | 7, h => exact List.mem_append_right _ (List.mem_append_right _ (List.mem_append_left _ h))
  | 8, h => exact List.mem_append_right _ (List.mem_append_right _ (List.mem_append_right _ (List.mem_append_left _ h)))
  | 9, h => exact List.mem_append_right _ (List.mem_append_right _ (List.mem_append_right _ (List.mem_append_right _ (List.mem_append_left _ h))))
  | 10, h => exact List.mem_append_right _ (List.mem_append_right _ (List.mem_append_right _ (List.mem_append_right _ (List.mem_append_right _ (List.mem_append_left _ h)))))
  | 11, h => exact List.mem_append_right _ (List.mem_append_right _ (List.mem_append_right _ (List.mem_append_right _ (List.mem_append_right _ (List.mem_append_right _ (List.mem_append_left _ h))))))
  | 12, h => exact List.mem_append_right _ (List.mem_append_right _ (List.mem_append_right _ (List.mem_append_right _ (List.mem_append_right _ (List.mem_append_right _ (List.mem_append_right _ (List.mem_append_left _ h)))))))
  | 13, h => exact List.mem_append_right _ (List.mem_append_right _ (List.mem_append_right _ (List.mem_append_right _ (List.mem_append_right _ (List.mem_append_right _ (List.mem_append_right _ (List.mem_append_right _ h)))))))
  | k + 14, h => exact absurd h List.not_mem_nil
theorem goodIn_2 (ws : List Cond) (ps : List (Nat × Nat)) (hp : ws = ps.filterMap (fun q => (st_b q.1)[q.2]?)) (hg : ws.all goodWord = true) : GoodIn lw_tbl ws := goodIn_sub (fun w h => by
  rw [hp] at h
  obtain ⟨q, _, hw⟩ := List.mem_filterMap.mp h
  exact st_bm q.1 w (List.mem_of_getElem? hw)) hg
set_option maxRecDepth 100000 in
theorem ggT_X10_init : GoodIn lw_tbl wsX10_init := goodIn_ca (goodIn_ca (goodIn_ca (goodIn_ca (goodIn_ca (goodIn_ca (goodIn_ca (goodIn_ca (goodIn_ca (goodIn_ca (goodIn_ca (goodIn_2 _ [(6, 31), (6, 32), (6, 33), (6, 34), (6, 35), (6, 36), (6, 2), (7, 103), (6, 172), (6, 173), (6, 6), (7, 104), (6, 192), (6, 193), (6, 7), (7, 105), (6, 226), (6, 227), (6, 8), (7, 106), (7, 46), (7, 47), (6, 9), (7, 107), (7, 74), (7, 75), (6, 10), (7, 108), (7, 88), (7, 89), (6, 11), (7, 109), (7, 110), (6, 38), (6, 39), (6, 40), (6, 41), (6, 42), (6, 3), (6, 147), (6, 81), (6, 82), (6, 4), (6, 152), (6, 110), (6, 111), (6, 5), (6, 156), (6, 140), (6, 141), (6, 142), (6, 143), (6, 144), (6, 146), (6, 158), (6, 44), (6, 45), (6, 46), (6, 79), (6, 54), (6, 56), (6, 57), (6, 58), (6, 59), (6, 80), (6, 60), (6, 84), (6, 85), (6, 86), (6, 92), (6, 95), (6, 98), (6, 113), (6, 114), (6, 115), (6, 122), (6, 123), (6, 124), (6, 174), (6, 175), (6, 176), (6, 177), (6, 178), (6, 184), (6, 195), (6, 196), (6, 197), (6, 204), (6, 198), (6, 206), (6, 208), (6, 229), (6, 230), (6, 231), (6, 237), (6, 239), (7, 2), (7, 4), (7, 6), (7, 7), (7, 8), (7, 9), (7, 10), (7, 11), (7, 49), (7, 50), (7, 51), (7, 54), (7, 56), (7, 57), (7, 73), (7, 58), (7, 77), (7, 78), (7, 79), (7, 80), (7, 82), (7, 91), (7, 92), (7, 93), (7, 96)] rfl (by decide +kernel)) (goodIn_m inX6 (by decide +kernel))) (goodIn_m inX10 (by decide +kernel))) (goodIn_m inX1 (by decide +kernel))) (goodIn_m inX5 (by decide +kernel))) (goodIn_m inX0 (by decide +kernel))) (goodIn_m inX4 (by decide +kernel))) (goodIn_m inX8 (by decide +kernel))) (goodIn_m inX3 (by decide +kernel))) (goodIn_m inX9 (by decide +kernel))) (goodIn_m inX7 (by decide +kernel))) (goodIn_m inX2 (by decide +kernel))
theorem gL_law_X10_init : GoodIn lw_tbl (wsX10_init) := ggT_X10_init
set_option maxRecDepth 100000 in
theorem ggT_X11_init : GoodIn lw_tbl wsX11_init := goodIn_ca (goodIn_2 _ [(11, 41), (11, 42), (6, 33), (6, 34), (6, 80), (11, 57), (11, 58), (11, 59), (6, 79), (11, 62), (11, 70), (11, 72), (11, 73), (11, 74), (11, 75), (11, 76), (11, 77), (11, 78), (11, 79), (11, 80), (7, 73), (11, 81), (11, 82), (11, 43), (11, 45), (2, 7), (6, 12), (11, 46), (11, 47), (11, 48), (11, 49), (11, 50), (11, 51), (11, 52), (11, 53), (11, 55), (2, 8), (11, 56)] rfl (by decide +kernel)) (goodIn_m inX11 (by decide +kernel))
theorem gL_law_X11_init : GoodIn lw_tbl (wsX11_init) := ggT_X11_init
set_option maxRecDepth 100000 in
theorem ggT_L_append : GoodIn lw_tbl wsL_append := goodIn_ca (goodIn_ca (goodIn_ca (goodIn_2 _ [(8, 81), (8, 82), (8, 83), (8, 84), (8, 85), (6, 1), (8, 86), (8, 91), (6, 16), (7, 105), (6, 201), (8, 87), (8, 88), (8, 89), (6, 7), (8, 90), (6, 200), (8, 160), (8, 161), (8, 162), (8, 163), (6, 208)] rfl (by decide +kernel)) (goodIn_m inX10 (by decide +kernel))) (goodIn_m inX5 (by decide +kernel))) (goodIn_f st_x0)
set_option maxRecDepth 100000 in
theorem gL_law_L_append : GoodIn lw_tbl (va_wsS RL 136 yL_append wsL_append) := goodIn_app (goodIn_2 _ [(8, 79), (8, 80), (6, 0)] rfl (by decide +kernel)) ggT_L_append
set_option maxRecDepth 100000 in
theorem ggT_X11_append : GoodIn lw_tbl wsX11_append := goodIn_ca (goodIn_2 _ [(11, 150), (11, 63), (11, 61), (11, 62)] rfl (by decide +kernel)) (goodIn_m inX11 (by decide +kernel))
set_option maxRecDepth 100000 in
theorem gL_law_X11_append : GoodIn lw_tbl (wsV RL 141 RX11 yX11_append wsX11_append) := goodIn_app (goodIn_2 _ [(11, 147), (11, 148), (11, 149), (6, 12)] rfl (by decide +kernel)) ggT_X11_append
set_option maxRecDepth 100000 in
theorem ggT_X11_thrown : GoodIn lw_tbl wsX11_thrown := goodIn_ca (goodIn_2 _ [(11, 142), (11, 61)] rfl (by decide +kernel)) (goodIn_m inX11 (by decide +kernel))
set_option maxRecDepth 100000 in
theorem gL_law_X11_thrown : GoodIn lw_tbl (wsV RL 142 RX11 yX11_thrown wsX11_thrown) := goodIn_app (goodIn_2 _ [(11, 139), (11, 140), (11, 141), (6, 12)] rfl (by decide +kernel)) ggT_X11_thrown
set_option maxRecDepth 100000 in
theorem ggT_L_load : GoodIn lw_tbl wsL_load := goodIn_ca (goodIn_ca (goodIn_ca (goodIn_ca (goodIn_ca (goodIn_ca (goodIn_ca (goodIn_ca (goodIn_2 _ [(8, 166), (8, 167), (8, 168), (8, 169), (8, 170), (6, 1), (8, 171), (8, 172), (6, 17), (7, 105), (6, 201), (6, 202), (7, 103), (6, 207), (6, 150), (6, 50), (8, 188), (8, 189), (8, 190), (6, 7), (8, 191), (6, 200), (8, 192), (7, 188), (6, 18), (7, 189), (6, 209), (6, 210), (6, 203), (6, 204), (6, 206), (8, 193), (8, 194), (8, 195), (6, 2), (8, 196), (6, 147), (6, 152), (6, 88), (6, 156), (6, 117), (6, 158), (8, 73), (8, 62), (8, 61), (6, 19), (8, 197), (8, 198), (8, 199), (6, 3), (8, 200), (6, 47), (6, 52), (8, 201), (8, 203), (0, 12), (8, 204), (6, 208), (8, 205), (8, 207), (0, 13), (8, 208), (8, 217), (9, 12), (9, 25), (8, 209), (8, 211), (0, 14), (8, 212), (8, 213), (8, 215), (0, 15), (8, 216), (8, 218), (8, 220), (1, 0), (8, 221), (6, 151), (6, 51), (8, 222), (8, 224), (1, 1), (8, 225), (8, 226), (8, 228), (1, 2), (8, 229), (8, 234), (8, 230), (8, 232), (1, 3), (8, 233), (8, 235), (8, 236), (8, 237), (8, 238), (6, 54), (6, 56), (6, 57), (6, 58), (8, 239), (9, 1), (1, 4), (9, 2), (9, 3), (9, 4), (9, 5), (9, 6), (6, 60), (9, 7), (7, 137), (7, 138), (7, 139), (9, 8), (9, 9), (9, 10), (9, 11), (6, 59), (9, 13), (9, 15), (1, 5), (9, 16), (6, 155), (6, 91), (9, 17), (9, 18), (9, 19), (6, 4), (9, 20), (6, 87), (6, 92), (6, 95), (6, 98), (9, 21), (9, 23), (1, 6), (9, 24), (9, 26), (9, 28), (1, 7), (9, 29), (6, 162), (9, 34), (9, 36), (1, 8), (9, 37), (8, 44), (8, 46), (0, 10), (8, 47), (7, 104), (7, 110), (8, 48), (8, 49), (8, 50), (6, 6), (8, 51), (6, 184), (6, 183), (6, 181), (8, 52), (8, 53), (8, 54), (8, 55), (8, 56), (8, 57), (8, 58), (8, 59), (8, 60), (8, 63), (8, 64), (8, 65), (8, 66), (8, 67), (8, 68), (8, 69), (8, 70), (6, 5), (8, 71), (6, 116), (6, 119), (6, 120), (6, 122), (8, 72), (6, 123), (6, 124), (9, 38)] rfl (by decide +kernel)) (goodIn_m inX10 (by decide +kernel))) (goodIn_m inX5 (by decide +kernel))) (goodIn_m inX6 (by decide +kernel))) (goodIn_m inX9 (by decide +kernel))) (goodIn_m inX7 (by decide +kernel))) (goodIn_m inX2 (by decide +kernel))) (goodIn_m inX1 (by decide +kernel))) (goodIn_f st_x1)
set_option maxRecDepth 100000 in
theorem gL_law_L_load : GoodIn lw_tbl (va_wsS RL 145 yL_load wsL_load) := goodIn_app (goodIn_2 _ [(8, 164), (8, 165), (6, 0)] rfl (by decide +kernel)) ggT_L_load
set_option maxRecDepth 100000 in
theorem ggT_X11_load : GoodIn lw_tbl wsX11_load := goodIn_ca (goodIn_2 _ [(11, 154), (11, 63), (11, 61), (11, 64), (11, 66), (11, 68), (11, 67), (11, 69), (11, 70), (11, 57), (11, 155), (11, 156), (6, 12), (11, 157), (11, 43), (11, 45), (2, 7), (11, 46), (11, 58), (11, 47), (11, 48), (11, 49), (11, 50), (11, 51), (11, 52), (11, 158), (11, 160), (2, 9), (11, 161), (11, 65), (11, 71), (11, 176), (11, 177), (11, 174), (11, 162), (11, 164), (2, 10), (11, 165), (11, 62), (11, 166), (11, 167), (11, 168), (11, 169), (11, 170), (11, 171), (11, 172), (11, 173), (11, 175), (11, 179), (11, 181), (2, 11), (11, 182), (11, 183), (11, 184), (11, 185), (6, 20), (11, 186), (13, 155), (11, 187), (11, 188), (11, 189), (11, 190), (11, 191), (13, 156), (11, 193), (11, 194), (11, 195), (11, 196), (11, 197), (11, 198), (11, 199), (11, 200), (11, 201), (11, 202), (6, 21), (11, 203), (11, 204), (11, 205), (11, 206), (11, 207), (11, 209), (11, 210), (6, 22), (11, 211), (11, 212), (11, 213), (6, 23), (11, 214), (11, 215), (11, 216), (11, 217), (11, 218), (11, 219), (11, 220), (11, 221), (11, 222), (11, 223), (11, 224), (11, 225), (11, 227), (11, 229), (11, 231), (11, 233), (2, 12), (11, 234), (11, 235), (11, 237), (2, 13), (11, 238), (11, 239), (12, 1), (2, 14), (12, 2), (12, 3), (12, 5), (2, 15), (12, 6), (12, 7), (12, 9), (3, 0), (12, 10), (12, 11), (12, 12), (12, 13), (12, 14), (12, 16), (3, 1), (12, 17), (12, 19), (12, 21), (3, 2), (12, 22), (12, 23), (12, 24), (12, 25), (12, 27), (12, 29), (3, 3), (12, 30), (12, 31), (12, 32), (12, 33), (12, 34), (12, 35), (12, 36), (12, 37), (12, 39), (3, 4), (12, 40), (11, 60), (11, 59), (11, 53), (11, 55), (2, 8), (11, 56)] rfl (by decide +kernel)) (goodIn_m inX11 (by decide +kernel))
set_option maxRecDepth 100000 in
theorem gL_law_X11_load : GoodIn lw_tbl (wsV RL 148 RX11 yX11_load wsX11_load) := goodIn_app (goodIn_2 _ [(11, 151), (11, 152), (11, 153), (6, 12)] rfl (by decide +kernel)) ggT_X11_load
set_option maxRecDepth 100000 in
theorem ggT_X10_errorPosition : GoodIn lw_tbl wsX10_errorPosition := goodIn_ca (goodIn_ca (goodIn_2 _ [(7, 131), (7, 105), (6, 205)] rfl (by decide +kernel)) (goodIn_m inX10 (by decide +kernel))) (goodIn_m inX5 (by decide +kernel))
set_option maxRecDepth 100000 in
theorem gL_law_X10_errorPosition : GoodIn lw_tbl (wsV RL 149 RX10 yX10_errorPosition wsX10_errorPosition) := goodIn_app (goodIn_2 _ [(7, 128), (7, 129), (7, 130), (6, 1)] rfl (by decide +kernel)) ggT_X10_errorPosition
set_option maxRecDepth 100000 in
theorem ggT_X11_errorPosition : GoodIn lw_tbl wsX11_errorPosition := goodIn_ca (goodIn_2 _ [(12, 44), (11, 61), (11, 70)] rfl (by decide +kernel)) (goodIn_m inX11 (by decide +kernel))
set_option maxRecDepth 100000 in
theorem gL_law_X11_errorPosition : GoodIn lw_tbl (wsV RL 152 RX11 yX11_errorPosition wsX11_errorPosition) := goodIn_app (goodIn_2 _ [(12, 41), (12, 42), (12, 43), (6, 12)] rfl (by decide +kernel)) ggT_X11_errorPosition
set_option maxRecDepth 100000 in
theorem ggT_L_count : GoodIn lw_tbl wsL_count := goodIn_ca (goodIn_ca (goodIn_ca (goodIn_ca (goodIn_ca (goodIn_2 _ [(9, 41), (8, 167), (9, 42), (9, 43), (9, 44), (6, 1), (9, 45), (8, 172), (6, 17), (7, 103), (6, 150), (6, 50), (6, 53), (6, 154), (6, 90), (6, 161), (9, 46), (9, 47), (9, 48), (6, 3), (9, 49), (7, 148), (7, 149), (7, 150), (7, 151), (6, 56), (6, 54), (9, 50), (9, 51), (9, 52), (9, 53), (6, 47), (7, 179), (7, 180), (7, 181), (7, 182), (6, 58), (9, 54), (9, 55), (9, 56), (9, 57), (9, 58), (7, 220), (7, 221), (7, 222), (9, 59), (8, 0), (8, 1), (8, 2), (6, 57)] rfl (by decide +kernel)) (goodIn_m inX10 (by decide +kernel))) (goodIn_m inX6 (by decide +kernel))) (goodIn_m inX9 (by decide +kernel))) (goodIn_m inX7 (by decide +kernel))) (goodIn_f st_x1)
set_option maxRecDepth 100000 in
theorem gL_law_L_count : GoodIn lw_tbl (va_wsS RL 153 yL_count wsL_count) := goodIn_app (goodIn_2 _ [(9, 39), (9, 40), (6, 0)] rfl (by decide +kernel)) ggT_L_count
set_option maxRecDepth 100000 in
theorem ggT_X11_count : GoodIn lw_tbl wsX11_count := goodIn_ca (goodIn_2 _ [(12, 48), (11, 51), (11, 61), (11, 57), (11, 155), (11, 156), (6, 12), (11, 157), (12, 49), (12, 51), (3, 5), (12, 52), (12, 53), (12, 55), (3, 6), (12, 56), (12, 57), (12, 59), (3, 7), (12, 60), (12, 61), (12, 63), (3, 8), (12, 64), (12, 65), (12, 67), (3, 9), (12, 68), (12, 69), (12, 71), (3, 10), (12, 72)] rfl (by decide +kernel)) (goodIn_m inX11 (by decide +kernel))
set_option maxRecDepth 100000 in
theorem gL_law_X11_count : GoodIn lw_tbl (wsV RL 155 RX11 yX11_count wsX11_count) := goodIn_app (goodIn_2 _ [(12, 45), (12, 46), (12, 47), (6, 12)] rfl (by decide +kernel)) ggT_X11_count
set_option maxRecDepth 100000 in
theorem ggT_L_setting : GoodIn lw_tbl wsL_setting := goodIn_ca (goodIn_ca (goodIn_ca (goodIn_2 _ [(9, 63), (9, 64), (9, 65), (9, 66), (9, 67), (6, 1), (9, 68), (7, 103), (6, 161), (9, 69), (9, 71), (1, 9), (9, 72), (9, 73), (6, 24)] rfl (by decide +kernel)) (goodIn_m inX10 (by decide +kernel))) (goodIn_m inX6 (by decide +kernel))) (goodIn_f st_x2)
set_option maxRecDepth 100000 in
theorem gL_law_L_setting : GoodIn lw_tbl (va_wsS RL 156 yL_setting wsL_setting) := goodIn_app (goodIn_2 _ [(9, 61), (9, 62), (6, 0)] rfl (by decide +kernel)) ggT_L_setting
set_option maxRecDepth 100000 in
theorem ggT_X11_setting : GoodIn lw_tbl wsX11_setting := goodIn_ca (goodIn_2 _ [(12, 76), (11, 51), (11, 61), (11, 57), (11, 155), (11, 156), (6, 12), (11, 157)] rfl (by decide +kernel)) (goodIn_m inX11 (by decide +kernel))
set_option maxRecDepth 100000 in
theorem gL_law_X11_setting : GoodIn lw_tbl (wsV RL 158 RX11 yX11_setting wsX11_setting) := goodIn_app (goodIn_2 _ [(12, 73), (12, 74), (12, 75), (6, 12)] rfl (by decide +kernel)) ggT_X11_setting
set_option maxRecDepth 100000 in
theorem ggT_L_set : GoodIn lw_tbl wsL_set := goodIn_ca (goodIn_ca (goodIn_ca (goodIn_ca (goodIn_ca (goodIn_ca (goodIn_ca (goodIn_ca (goodIn_2 _ [(9, 91), (9, 64), (8, 167), (9, 92), (9, 93), (9, 94), (6, 1), (9, 95), (9, 96), (9, 97), (7, 103), (6, 161), (9, 69), (9, 71), (1, 9), (9, 72), (9, 73), (6, 24), (9, 98), (9, 100), (1, 10), (9, 101), (8, 172), (6, 17), (8, 44), (8, 46), (0, 10), (8, 47), (7, 104), (7, 110), (8, 48), (8, 49), (8, 50), (6, 6), (8, 51), (6, 184), (6, 183), (6, 181), (8, 52), (8, 53), (8, 54), (6, 2), (8, 55), (6, 147), (6, 152), (6, 156), (6, 158), (8, 73), (8, 62), (8, 61), (6, 19), (8, 56), (8, 57), (8, 58), (6, 3), (8, 59), (6, 47), (6, 52), (6, 54), (8, 60), (6, 56), (6, 57), (6, 58), (6, 59), (6, 60), (8, 63), (8, 64), (8, 65), (6, 4), (8, 66), (6, 87), (6, 92), (8, 67), (6, 95), (6, 98), (8, 68), (8, 69), (8, 70), (6, 5), (8, 71), (6, 116), (6, 119), (6, 120), (6, 122), (8, 72), (6, 123), (6, 124)] rfl (by decide +kernel)) (goodIn_m inX10 (by decide +kernel))) (goodIn_m inX6 (by decide +kernel))) (goodIn_m inX1 (by decide +kernel))) (goodIn_m inX9 (by decide +kernel))) (goodIn_m inX7 (by decide +kernel))) (goodIn_m inX2 (by decide +kernel))) (goodIn_f st_x2)) (goodIn_f st_x1)
set_option maxRecDepth 100000 in
theorem gL_law_L_set : GoodIn lw_tbl (va_wsS RL 159 yL_set wsL_set) := goodIn_app (goodIn_2 _ [(9, 89), (9, 90), (6, 0)] rfl (by decide +kernel)) ggT_L_set
set_option maxRecDepth 100000 in
theorem ggT_X11_set : GoodIn lw_tbl wsX11_set := goodIn_ca (goodIn_2 _ [(12, 80), (11, 51), (11, 61), (11, 57), (11, 155), (11, 156), (6, 12), (11, 157), (12, 31), (12, 32), (12, 33), (12, 34), (12, 35), (12, 36), (12, 37), (12, 39), (3, 4), (12, 40), (11, 60), (11, 59)] rfl (by decide +kernel)) (goodIn_m inX11 (by decide +kernel))
set_option maxRecDepth 100000 in
theorem gL_law_X11_set : GoodIn lw_tbl (wsV RL 162 RX11 yX11_set wsX11_set) := goodIn_app (goodIn_2 _ [(12, 77), (12, 78), (12, 79), (6, 12)] rfl (by decide +kernel)) ggT_X11_set
set_option maxRecDepth 100000 in
theorem ggT_L_segment : GoodIn lw_tbl wsL_segment := goodIn_ca (goodIn_ca (goodIn_ca (goodIn_ca (goodIn_ca (goodIn_ca (goodIn_ca (goodIn_ca (goodIn_ca (goodIn_2 _ [(9, 105), (9, 64), (8, 167), (9, 106), (9, 107), (9, 108), (6, 1), (9, 109), (8, 172), (6, 17), (7, 103), (6, 150), (7, 107), (9, 110), (9, 112), (1, 11), (9, 113), (9, 73), (6, 24), (6, 50), (9, 115), (7, 149), (7, 150), (6, 3), (7, 151), (6, 56), (6, 54), (9, 116), (8, 0), (8, 1), (8, 2), (6, 57), (9, 117), (7, 180), (7, 181), (7, 182), (6, 58), (9, 46), (9, 47), (9, 48), (9, 49), (7, 148), (7, 156), (7, 158), (0, 0), (7, 159), (7, 110), (7, 106), (7, 108), (7, 160), (7, 161), (7, 162), (6, 8), (7, 163), (6, 148), (6, 48), (7, 12), (6, 159), (7, 13), (7, 14), (7, 8), (6, 237), (6, 233), (7, 164), (7, 165), (7, 167), (0, 1), (7, 168), (7, 10), (7, 11), (7, 172), (7, 173), (6, 18), (7, 174), (7, 187), (7, 188), (7, 189), (7, 169), (7, 170), (6, 25), (7, 171), (7, 175), (7, 176), (7, 177), (7, 178), (7, 179), (7, 183), (7, 184), (7, 185), (7, 186), (6, 59), (7, 191), (7, 192), (7, 193), (7, 194), (7, 195), (7, 196), (7, 197), (7, 198), (7, 7), (7, 199), (7, 201), (0, 2), (7, 202), (7, 203), (7, 204), (7, 205), (7, 206), (7, 207), (7, 209), (0, 3), (7, 210), (7, 4), (7, 6), (7, 211), (7, 213), (0, 4), (7, 214), (6, 235), (6, 239), (7, 2), (7, 215), (7, 216), (7, 217), (6, 9), (7, 218), (6, 149), (7, 59), (7, 57), (7, 58), (6, 153), (6, 89), (7, 56), (7, 219), (7, 220), (7, 221), (7, 222), (6, 47), (7, 223), (7, 224), (7, 225), (7, 226), (7, 227), (7, 228), (7, 229), (7, 230), (7, 231), (7, 233), (0, 5), (7, 234), (6, 160), (7, 235), (7, 237), (0, 6), (7, 238), (6, 99), (7, 239), (8, 3), (8, 5), (0, 7), (8, 6), (6, 93), (8, 7), (8, 8), (8, 9), (8, 10), (8, 12), (0, 8), (8, 13), (8, 14), (8, 16), (0, 9), (8, 17), (7, 52), (7, 54), (8, 18), (8, 19), (8, 20), (6, 10), (8, 21), (7, 82), (7, 80), (6, 232), (7, 0), (8, 22), (8, 23), (8, 24), (8, 25), (8, 26), (8, 27), (9, 118), (9, 119), (9, 120), (9, 121), (6, 96), (9, 122)] rfl (by decide +kernel)) (goodIn_m inX10 (by decide +kernel))) (goodIn_m inX6 (by decide +kernel))) (goodIn_m inX9 (by decide +kernel))) (goodIn_m inX0 (by decide +kernel))) (goodIn_m inX4 (by decide +kernel))) (goodIn_m inX7 (by decide +kernel))) (goodIn_m inX8 (by decide +kernel))) (goodIn_f st_x1)) (goodIn_f st_x2)
set_option maxRecDepth 100000 in
theorem gL_law_L_segment : GoodIn lw_tbl (va_wsS RL 163 yL_segment wsL_segment) := goodIn_app (goodIn_2 _ [(9, 103), (9, 104), (6, 0)] rfl (by decide +kernel)) ggT_L_segment
set_option maxRecDepth 100000 in
theorem ggT_X11_segment : GoodIn lw_tbl wsX11_segment := goodIn_ca (goodIn_2 _ [(12, 84), (12, 89), (11, 61), (12, 85), (12, 87), (3, 11), (6, 12), (12, 88), (12, 49), (12, 51), (3, 5), (12, 52), (11, 57), (11, 155), (11, 156), (11, 157), (12, 53), (12, 55), (3, 6), (12, 56), (12, 57), (12, 59), (3, 7), (12, 60), (12, 90), (12, 92), (3, 12), (12, 93), (11, 80), (12, 94), (12, 96), (3, 13), (12, 97), (11, 79), (12, 98), (12, 100), (3, 14), (12, 101), (11, 81), (11, 73), (11, 74), (12, 102), (12, 104), (3, 15), (12, 105), (11, 72), (12, 122), (12, 106), (12, 108), (4, 0), (12, 109), (11, 75), (11, 76), (12, 110), (12, 112), (4, 1), (12, 113), (12, 114), (12, 116), (4, 2), (12, 117), (12, 118), (12, 120), (4, 3), (12, 121), (12, 123), (12, 125), (4, 4), (12, 126), (11, 77), (11, 78), (12, 127), (12, 129), (4, 5), (12, 130), (12, 131), (12, 133), (4, 6), (12, 134), (12, 135), (12, 137), (4, 7), (12, 138), (12, 151), (12, 139), (12, 141), (4, 8), (12, 142), (12, 69), (12, 71), (3, 10), (12, 72), (12, 143), (12, 145), (4, 9), (12, 146), (12, 147), (12, 149), (4, 10), (12, 150), (12, 152), (12, 154), (4, 11), (12, 155)] rfl (by decide +kernel)) (goodIn_m inX11 (by decide +kernel))
set_option maxRecDepth 100000 in
theorem gL_law_X11_segment : GoodIn lw_tbl (wsV RL 165 RX11 yX11_segment wsX11_segment) := goodIn_app (goodIn_2 _ [(12, 81), (12, 82), (12, 83), (6, 12)] rfl (by decide +kernel)) ggT_X11_segment
set_option maxRecDepth 100000 in
theorem ggT_L_wordOf : GoodIn lw_tbl wsL_wordOf := goodIn_ca (goodIn_ca (goodIn_ca (goodIn_ca (goodIn_2 _ [(9, 126), (9, 64), (9, 127), (9, 128), (9, 129), (6, 1), (9, 130), (9, 73), (6, 24), (7, 103), (6, 150), (9, 110), (9, 112), (1, 11), (9, 113), (6, 50), (9, 117), (7, 180), (7, 181), (6, 3), (7, 182), (6, 58), (6, 54), (9, 132), (7, 184), (7, 185), (7, 186), (6, 59)] rfl (by decide +kernel)) (goodIn_m inX10 (by decide +kernel))) (goodIn_m inX6 (by decide +kernel))) (goodIn_m inX9 (by decide +kernel))) (goodIn_f st_x2)
set_option maxRecDepth 100000 in
theorem gL_law_L_wordOf : GoodIn lw_tbl (va_wsS RL 166 yL_wordOf wsL_wordOf) := goodIn_app (goodIn_2 _ [(9, 124), (9, 125), (6, 0)] rfl (by decide +kernel)) ggT_L_wordOf
set_option maxRecDepth 100000 in
theorem ggT_X11_wordOf : GoodIn lw_tbl wsX11_wordOf := goodIn_ca (goodIn_2 _ [(12, 159), (11, 61), (12, 85), (12, 87), (3, 11), (6, 12), (12, 88), (12, 49), (12, 51), (3, 5), (12, 52), (11, 57), (11, 155), (11, 156), (11, 157), (12, 57), (12, 59), (3, 7), (12, 60)] rfl (by decide +kernel)) (goodIn_m inX11 (by decide +kernel))
set_option maxRecDepth 100000 in
theorem gL_law_X11_wordOf : GoodIn lw_tbl (wsV RL 168 RX11 yX11_wordOf wsX11_wordOf) := goodIn_app (goodIn_2 _ [(12, 156), (12, 157), (12, 158), (6, 12)] rfl (by decide +kernel)) ggT_X11_wordOf
set_option maxRecDepth 100000 in
theorem ggT_X10_find : GoodIn lw_tbl wsX10_find := goodIn_ca (goodIn_ca (goodIn_ca (goodIn_2 _ [(7, 135), (7, 103), (6, 150), (7, 136), (7, 137), (7, 138), (6, 3), (7, 139), (6, 52), (6, 60)] rfl (by decide +kernel)) (goodIn_m inX10 (by decide +kernel))) (goodIn_m inX6 (by decide +kernel))) (goodIn_m inX9 (by decide +kernel))
set_option maxRecDepth 100000 in
theorem gL_law_X10_find : GoodIn lw_tbl (wsV RL 171 RX10 yX10_find wsX10_find) := goodIn_app (goodIn_2 _ [(7, 132), (7, 133), (7, 134), (6, 1)] rfl (by decide +kernel)) ggT_X10_find
