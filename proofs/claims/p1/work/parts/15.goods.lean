theorem goodIn_ca {big a b : List Cond} {c : Cond} (ha : GoodIn big (c :: a)) (hb : GoodIn big b) : GoodIn big (c :: (a ++ b)) := fun w h => (List.mem_cons.mp h).elim (fun e => ha w (List.mem_cons.mpr (Or.inl e))) (fun h => (List.mem_append.mp h).elim (fun h => ha w (List.mem_cons.mpr (Or.inr h))) (hb w))
def RL : String := "FourTonguesLaw"
set_option maxRecDepth 100000 in
theorem gb_f_RX0 : GoodIn lw_tbl wsX00 := goodIn_c _ [(1, 121), (1, 123), (1, 125), (1, 127), (1, 129), (1, 131)] rfl (by decide +kernel)
set_option maxRecDepth 100000 in
theorem gb_f_RX1 : GoodIn lw_tbl wsX10 := goodIn_c _ [(2, 72), (2, 74), (2, 76), (2, 78), (2, 80)] rfl (by decide +kernel)
set_option maxRecDepth 100000 in
theorem gb_f_RX10 : GoodIn lw_tbl wsX100 := goodIn_c _ [(1, 224), (1, 226), (1, 228), (1, 230), (1, 232), (1, 234), (1, 236), (1, 238), (2, 0), (2, 2), (2, 4), (2, 6), (2, 8), (2, 10), (2, 12), (2, 14)] rfl (by decide +kernel)
set_option maxRecDepth 100000 in
theorem gb_f_RX11 : GoodIn lw_tbl wsX110 := goodIn_c _ [(2, 205), (2, 207), (2, 209), (2, 211), (2, 213), (2, 215), (2, 217), (2, 219), (2, 221)] rfl (by decide +kernel)
set_option maxRecDepth 100000 in
theorem gb_f_RX12 : GoodIn lw_tbl wsX120 := goodIn_c _ [(8, 15), (8, 17), (8, 19), (8, 21), (8, 23), (8, 25), (8, 27), (8, 29), (8, 31), (8, 33), (8, 35), (8, 37), (8, 39), (8, 41), (8, 43), (8, 45), (8, 47), (8, 49), (8, 51), (8, 53), (8, 55), (8, 57), (8, 59), (8, 61), (8, 63), (8, 65), (8, 67), (8, 69), (8, 71), (8, 73), (8, 75), (8, 77), (8, 79), (8, 81), (8, 83), (8, 85), (8, 87), (8, 89), (8, 91), (8, 93), (8, 95), (8, 97), (8, 99), (8, 101), (8, 103), (8, 105), (8, 107), (8, 109), (8, 111), (8, 113), (8, 115), (8, 117), (8, 119), (8, 121), (8, 123), (8, 125), (8, 127), (8, 129), (8, 131), (8, 133), (8, 135), (8, 137), (8, 139), (8, 141), (8, 143), (8, 145), (8, 147), (8, 149), (8, 151), (8, 153), (8, 155), (8, 157), (8, 159), (8, 161), (8, 163), (8, 165), (8, 167), (8, 169), (8, 171), (8, 173), (8, 175), (8, 177), (8, 179), (8, 181), (8, 183), (8, 185), (8, 187), (8, 189), (8, 191), (8, 193), (8, 195), (8, 197), (8, 199), (8, 201), (8, 203), (8, 205), (8, 207), (8, 209), (8, 211), (8, 213), (8, 215), (8, 217), (8, 219), (8, 221), (8, 223), (8, 225)] rfl (by decide +kernel)
set_option maxRecDepth 100000 in
theorem gb_f_RX2 : GoodIn lw_tbl wsX20 := goodIn_c _ [(2, 97), (2, 99), (2, 101), (2, 103), (2, 105), (2, 107), (2, 109), (2, 111)] rfl (by decide +kernel)
set_option maxRecDepth 100000 in
theorem gb_f_RX3 : GoodIn lw_tbl wsX30 := goodIn_c _ [(2, 129), (2, 131), (2, 133), (2, 135), (2, 137), (2, 139), (2, 141)] rfl (by decide +kernel)
set_option maxRecDepth 100000 in
theorem gb_f_RX4 : GoodIn lw_tbl wsX40 := goodIn_c _ [(2, 161), (2, 163), (2, 165), (2, 167), (2, 169), (2, 171), (2, 173), (2, 175), (2, 177), (2, 179), (2, 181), (2, 183), (2, 185), (2, 187), (2, 189), (2, 191), (2, 193)] rfl (by decide +kernel)
set_option maxRecDepth 100000 in
theorem gb_f_RX5 : GoodIn lw_tbl wsX50 := goodIn_c _ [(1, 92), (1, 94), (1, 96), (1, 98), (1, 100)] rfl (by decide +kernel)
set_option maxRecDepth 100000 in
theorem gb_f_RX7 : GoodIn lw_tbl wsX70 := goodIn_c _ [(2, 28), (2, 30), (2, 32), (2, 34), (2, 36), (2, 38), (2, 40), (2, 42), (2, 44), (2, 46), (2, 48)] rfl (by decide +kernel)
set_option maxRecDepth 100000 in
theorem gb_f_RX8 : GoodIn lw_tbl wsX80 := goodIn_c _ [(1, 172), (1, 174), (1, 176), (1, 178), (1, 180), (1, 182), (1, 184), (1, 186)] rfl (by decide +kernel)
set_option maxRecDepth 100000 in
theorem gb_f_RX9 : GoodIn lw_tbl wsX90 := goodIn_c _ [(1, 154), (1, 156), (1, 158), (1, 160)] rfl (by decide +kernel)
set_option maxRecDepth 100000 in
theorem gb_wsX11_init : GoodIn lw_tbl wsX11_init := goodIn_c _ [(1, 28), (1, 29), (1, 30), (1, 31), (1, 103), (2, 196), (2, 197), (2, 198), (1, 32), (1, 33), (1, 2), (2, 199), (1, 106), (1, 107), (1, 7), (2, 200), (1, 134), (2, 201), (1, 136), (1, 9), (2, 202), (1, 189), (1, 190), (1, 12), (2, 203), (2, 51), (2, 52), (1, 14), (2, 204), (1, 34), (1, 35), (1, 36), (1, 37), (1, 104), (1, 87), (1, 105), (1, 88), (1, 89), (1, 90), (1, 91), (1, 39), (1, 40), (1, 41), (1, 3), (1, 42), (11, 89), (1, 43), (1, 44), (1, 45), (1, 46), (1, 47), (11, 90), (1, 49), (1, 50), (1, 51), (1, 52), (1, 53), (1, 54), (1, 55), (1, 56), (1, 57), (1, 58), (1, 4), (1, 59), (1, 60), (1, 61), (1, 62), (1, 63), (1, 65), (1, 66), (1, 5), (1, 67), (1, 68), (1, 69), (1, 6), (1, 70), (1, 71), (1, 72), (1, 73), (1, 74), (1, 75), (1, 76), (1, 77), (1, 78), (1, 79), (1, 80), (1, 81), (1, 83), (1, 85), (1, 108), (1, 109), (1, 110), (1, 111), (1, 115), (1, 116), (1, 117), (1, 118), (1, 119), (1, 120), (1, 112), (1, 113), (1, 8), (1, 114), (1, 138), (1, 139), (1, 140), (1, 164), (1, 165), (1, 141), (1, 142), (1, 10), (1, 166), (1, 167), (1, 168), (1, 169), (1, 170), (1, 171), (1, 143), (1, 144), (1, 145), (1, 146), (1, 153), (1, 147), (1, 148), (1, 11), (1, 149), (1, 150), (1, 151), (1, 163), (1, 152), (1, 191), (1, 192), (1, 193), (1, 194), (2, 20), (2, 21), (2, 22), (2, 23), (2, 24), (2, 25), (2, 26), (2, 27), (1, 195), (1, 196), (1, 13), (2, 17), (2, 18), (2, 19), (1, 197), (1, 198), (1, 199), (1, 200), (1, 205), (1, 206), (1, 207), (1, 208), (1, 209), (1, 210), (1, 211), (1, 212), (1, 213), (1, 214), (1, 215), (1, 216), (1, 218), (1, 220), (1, 222), (1, 204), (1, 202), (1, 203), (2, 53), (2, 54), (2, 55), (2, 56), (2, 57), (2, 147), (2, 148), (2, 149), (2, 59), (2, 60), (1, 15), (2, 150), (2, 83), (2, 84), (1, 16), (2, 151), (2, 114), (2, 115), (1, 17), (2, 152), (2, 153), (2, 155), (2, 156), (2, 157), (2, 158), (2, 159), (2, 160), (2, 144), (2, 145), (2, 146), (2, 154), (2, 58), (2, 62), (2, 63), (2, 64), (2, 67), (2, 68), (2, 65), (2, 69), (2, 70), (2, 71), (2, 66), (2, 86), (2, 87), (2, 88), (2, 89), (2, 90), (2, 91), (2, 92), (2, 93), (2, 94), (2, 95), (2, 96), (2, 117), (2, 118), (2, 119), (2, 122), (2, 123), (2, 124), (2, 125), (2, 126), (2, 120), (2, 127), (2, 128), (2, 121), (2, 205), (2, 207), (2, 209), (2, 211), (2, 213), (2, 215), (2, 217), (2, 219), (2, 221), (1, 92), (1, 94), (1, 96), (1, 98), (1, 100), (1, 121), (1, 123), (1, 125), (1, 127), (1, 129), (1, 131), (1, 172), (1, 174), (1, 176), (1, 178), (1, 180), (1, 182), (1, 184), (1, 186), (2, 28), (2, 30), (2, 32), (2, 34), (2, 36), (2, 38), (2, 40), (2, 42), (2, 44), (2, 46), (2, 48), (2, 161), (2, 163), (2, 165), (2, 167), (2, 169), (2, 171), (2, 173), (2, 175), (2, 177), (2, 179), (2, 181), (2, 183), (2, 185), (2, 187), (2, 189), (2, 191), (2, 193), (1, 154), (1, 156), (1, 158), (1, 160), (1, 224), (1, 226), (1, 228), (1, 230), (1, 232), (1, 234), (1, 236), (1, 238), (2, 0), (2, 2), (2, 4), (2, 6), (2, 8), (2, 10), (2, 12), (2, 14), (2, 72), (2, 74), (2, 76), (2, 78), (2, 80), (2, 97), (2, 99), (2, 101), (2, 103), (2, 105), (2, 107), (2, 109), (2, 111), (2, 129), (2, 131), (2, 133), (2, 135), (2, 137), (2, 139), (2, 141)] rfl (by decide +kernel)
theorem gl_wsX11_init : GoodIn lw_tbl wsX11_init := gb_wsX11_init
set_option maxRecDepth 100000 in
theorem gb_wsJ0_length_8abf5 : GoodIn lw_tbl wsJ0_length_8abf5 := goodIn_c _ [(1, 42), (11, 89), (1, 43), (1, 44), (1, 45), (1, 3), (1, 46), (1, 47), (11, 90)] rfl (by decide +kernel)
set_option maxRecDepth 100000 in
theorem gb_wsJ0_charAt_5068e : GoodIn lw_tbl wsJ0_charAt_5068e := goodIn_c _ [(1, 52), (11, 89), (1, 53), (1, 54), (1, 55), (1, 3), (1, 56), (1, 47), (11, 90), (1, 57), (1, 58), (1, 4), (1, 59), (1, 60), (1, 61), (1, 62), (1, 63), (1, 65), (1, 66), (1, 5), (1, 67), (1, 68), (1, 69), (1, 6), (1, 70), (1, 71), (1, 72), (1, 73), (1, 74), (1, 75), (1, 76), (1, 77), (1, 78), (1, 79), (1, 80), (1, 81), (1, 83), (1, 85)] rfl (by decide +kernel)
set_option maxRecDepth 100000 in
theorem gb_wqX12_codeOf : GoodIn lw_tbl wqX12_codeOf := by
  unfold wqX12_codeOf
  exact goodIn_c _ [(7, 148)] rfl (by decide +kernel)
set_option maxRecDepth 100000 in
theorem gb_wqX12_init : GoodIn lw_tbl wqX12_init := by
  unfold wqX12_init
  exact goodIn_ca (goodIn_c _ [(7, 139), (7, 140), (1, 30), (1, 31), (1, 105), (7, 150), (1, 104), (7, 152), (7, 154), (7, 141), (7, 168), (7, 169), (7, 170), (7, 172), (7, 173), (7, 174), (7, 175), (7, 176), (7, 177), (7, 179), (7, 182), (7, 187), (7, 190), (7, 191), (7, 192), (7, 193), (7, 194), (7, 195), (1, 103), (7, 198), (7, 199), (7, 200), (7, 201), (7, 203), (7, 204), (7, 205), (7, 206), (7, 207), (7, 208), (7, 209), (7, 211), (7, 212), (7, 213), (7, 215), (7, 216), (7, 219), (7, 220), (7, 221), (7, 222), (7, 223), (7, 224), (7, 225), (7, 226), (7, 227), (7, 228), (7, 229), (7, 235), (7, 236), (8, 9), (8, 10), (8, 11), (8, 12), (8, 14), (7, 153), (7, 143), (1, 40), (1, 41), (1, 3), (7, 144), (1, 50), (1, 51), (7, 145), (7, 146), (7, 147), (1, 18)] rfl (by decide +kernel)) (goodIn_app gb_f_RX12 (goodIn_app gb_wsJ0_length_8abf5 (goodIn_app gb_wsJ0_charAt_5068e gb_wqX12_codeOf)))
theorem gl_wqX12_init : GoodIn lw_tbl wqX12_init := gb_wqX12_init
set_option maxRecDepth 100000 in
theorem gb_wsX11_feed : GoodIn lw_tbl wsX11_feed := goodIn_c _ [(2, 227), (2, 197), (2, 228), (2, 230), (0, 0), (1, 1), (2, 231), (2, 196), (2, 205), (2, 207), (2, 209), (2, 211), (2, 213), (2, 215), (2, 217), (2, 219), (2, 221)] rfl (by decide +kernel)
set_option maxRecDepth 100000 in
theorem gl_wsX11_feed_13 : GoodIn lw_tbl (wsV RL 13 RX11 yX11_feed wsX11_feed) := goodIn_app (goodIn_c _ [(2, 224), (2, 225), (2, 226), (1, 1)] rfl (by decide +kernel)) gb_wsX11_feed
set_option maxRecDepth 100000 in
theorem gb_wqX12_feed : GoodIn lw_tbl wqX12_feed := by
  unfold wqX12_feed
  exact goodIn_ca (goodIn_c _ [(8, 235), (7, 149), (7, 151), (7, 150)] rfl (by decide +kernel)) gb_f_RX12
set_option maxRecDepth 100000 in
theorem gl_wqX12_feed_17 : GoodIn lw_tbl (wsV RL 17 RX12 yX12_feed wqX12_feed) := goodIn_app (goodIn_c _ [(8, 232), (8, 233), (8, 234), (1, 18)] rfl (by decide +kernel)) gb_wqX12_feed
set_option maxRecDepth 100000 in
theorem gb_wsX11_isTongue : GoodIn lw_tbl wsX11_isTongue := goodIn_c _ [(2, 238)] rfl (by decide +kernel)
set_option maxRecDepth 100000 in
theorem gb_wqX5_keep : GoodIn lw_tbl wqX5_keep := by
  unfold wqX5_keep
  exact goodIn_ca (goodIn_c _ [(3, 2), (1, 90), (1, 91), (1, 88), (1, 89), (3, 3), (3, 5), (3, 4), (1, 19)] rfl (by decide +kernel)) gb_f_RX5
set_option maxRecDepth 100000 in
theorem gb_wqX9_resize : GoodIn lw_tbl wqX9_resize := by
  unfold wqX9_resize
  exact goodIn_ca (goodIn_c _ [(3, 17), (1, 147), (1, 148), (1, 11), (1, 149), (1, 150), (1, 153)] rfl (by decide +kernel)) gb_f_RX9
set_option maxRecDepth 100000 in
theorem gb_wqX8_clear : GoodIn lw_tbl wqX8_clear := by
  unfold wqX8_clear
  exact goodIn_ca (goodIn_c _ [(3, 13), (1, 165), (1, 171), (1, 166), (3, 14), (3, 15), (3, 16), (1, 10)] rfl (by decide +kernel)) (goodIn_app gb_f_RX8 gb_wqX9_resize)
set_option maxRecDepth 100000 in
theorem gb_wsJ7_fill_53178 : GoodIn lw_tbl wsJ7_fill_53178 := goodIn_c _ [(1, 114)] rfl (by decide +kernel)
set_option maxRecDepth 100000 in
theorem gb_wqX10_byteAt : GoodIn lw_tbl wqX10_byteAt := by
  unfold wqX10_byteAt
  exact goodIn_ca (goodIn_c _ [(3, 61), (1, 211)] rfl (by decide +kernel)) gb_f_RX10
set_option maxRecDepth 100000 in
theorem gb_wqX10_readToken : GoodIn lw_tbl wqX10_readToken := by
  unfold wqX10_readToken
  exact goodIn_ca (goodIn_c _ [(3, 57), (1, 213), (1, 211), (1, 218), (1, 220), (3, 58), (3, 60), (0, 2), (1, 13), (1, 216)] rfl (by decide +kernel)) (goodIn_app gb_f_RX10 gb_wqX10_byteAt)
set_option maxRecDepth 100000 in
theorem gb_wqX10_next : GoodIn lw_tbl wqX10_next := by
  unfold wqX10_next
  exact goodIn_ca (goodIn_c _ [(3, 159), (1, 215), (1, 214), (1, 210), (1, 206), (1, 216), (1, 207), (1, 218), (1, 208), (1, 220), (1, 209), (1, 222)] rfl (by decide +kernel)) gb_f_RX10
set_option maxRecDepth 100000 in
theorem gb_wqX10_begin : GoodIn lw_tbl wqX10_begin := by
  unfold wqX10_begin
  exact goodIn_ca (goodIn_c _ [(3, 52), (1, 212), (1, 204), (3, 53), (3, 29), (1, 11), (3, 30), (1, 211), (1, 213), (1, 210), (1, 216), (3, 54), (3, 56), (0, 1), (1, 13), (1, 206), (1, 207), (1, 218), (1, 208), (1, 220), (1, 209), (1, 222), (1, 215), (1, 214), (3, 156), (3, 157), (3, 158)] rfl (by decide +kernel)) (goodIn_app gb_f_RX10 (goodIn_app gb_wqX10_readToken gb_wqX10_next))
set_option maxRecDepth 100000 in
theorem gb_wqX7_parse : GoodIn lw_tbl wqX7_parse := by
  unfold wqX7_parse
  exact goodIn_ca (goodIn_c _ [(3, 9), (2, 19), (3, 10), (3, 11), (3, 12), (1, 9), (2, 25), (2, 26), (2, 24), (2, 20), (3, 48), (1, 113), (1, 8), (2, 17), (3, 49), (3, 50), (3, 51), (1, 13)] rfl (by decide +kernel)) (goodIn_app gb_f_RX7 (goodIn_app gb_wqX8_clear (goodIn_app gb_wsJ7_fill_53178 (goodIn_app gb_wqX10_begin gb_f_RX10))))
set_option maxRecDepth 100000 in
theorem gb_wqX7_faultKind : GoodIn lw_tbl wqX7_faultKind := by
  unfold wqX7_faultKind
  exact goodIn_ca (goodIn_c _ [(4, 210), (2, 20)] rfl (by decide +kernel)) gb_f_RX7
set_option maxRecDepth 100000 in
theorem gb_wsX8_functions : GoodIn lw_tbl wsX8_functions := goodIn_c _ [(3, 192), (1, 171), (1, 172), (1, 174), (1, 176), (1, 178), (1, 180), (1, 182), (1, 184), (1, 186)] rfl (by decide +kernel)
set_option maxRecDepth 100000 in
theorem gb_wqX11_load : GoodIn lw_tbl wqX11_load := by
  unfold wqX11_load
  exact goodIn_ca (goodIn_c _ [(2, 235), (2, 236), (2, 237), (1, 1), (2, 197), (2, 199), (2, 239), (3, 0), (3, 1), (1, 2), (2, 203), (2, 202), (3, 6), (3, 7), (3, 8), (1, 12), (4, 207), (4, 208), (4, 209), (2, 198), (2, 201), (4, 220), (3, 190), (3, 191), (1, 9)] rfl (by decide +kernel)) (goodIn_app gb_wsX11_isTongue (goodIn_app gb_f_RX11 (goodIn_app gb_wqX5_keep (goodIn_app gb_wqX7_parse (goodIn_app gb_wqX7_faultKind gb_wsX8_functions)))))
set_option maxRecDepth 100000 in
theorem gl_wqX11_load_18 : GoodIn lw_tbl (wsV RL 18 RX11 yX11_load wqX11_load) := goodIn_app (goodIn_c _ [(2, 232), (2, 233), (2, 234), (1, 1)] rfl (by decide +kernel)) gb_wqX11_load
set_option maxRecDepth 100000 in
theorem gb_wqX12_isWrong : GoodIn lw_tbl wqX12_isWrong := by
  unfold wqX12_isWrong
  exact goodIn_ca (goodIn_c _ [(9, 7), (7, 164)] rfl (by decide +kernel)) gb_f_RX12
set_option maxRecDepth 100000 in
theorem gb_wqX12_here : GoodIn lw_tbl wqX12_here := by
  unfold wqX12_here
  exact goodIn_ca (goodIn_c _ [(9, 11), (7, 155), (7, 156)] rfl (by decide +kernel)) gb_f_RX12
set_option maxRecDepth 100000 in
theorem gb_wqX12_next : GoodIn lw_tbl wqX12_next := by
  unfold wqX12_next
  exact goodIn_ca (goodIn_c _ [(9, 3), (9, 4), (9, 6), (0, 120), (1, 18), (9, 8), (9, 10), (0, 121), (7, 155), (7, 158), (7, 157)] rfl (by decide +kernel)) (goodIn_app gb_wqX12_isWrong (goodIn_app gb_wqX12_here gb_f_RX12))
set_option maxRecDepth 100000 in
theorem gb_wqX12_isWrong4 : GoodIn lw_tbl wqX12_isWrong4 := by
  unfold wqX12_isWrong4
  exact goodIn_ca (goodIn_c _ [(9, 7), (7, 164)] rfl (by decide +kernel)) gb_f_RX12
set_option maxRecDepth 100000 in
theorem gb_wqX12_text : GoodIn lw_tbl wqX12_text := by
  unfold wqX12_text
  exact goodIn_ca (goodIn_c _ [(9, 61), (9, 4), (9, 6), (0, 120), (1, 18), (7, 157)] rfl (by decide +kernel)) (goodIn_app gb_wqX12_isWrong4 gb_f_RX12)
set_option maxRecDepth 100000 in
theorem gb_wqX12_load : GoodIn lw_tbl wqX12_load := by
  unfold wqX12_load
  exact goodIn_ca (goodIn_c _ [(8, 239), (7, 149), (7, 151), (7, 163), (7, 155), (7, 156), (7, 164), (7, 165), (7, 166), (7, 167), (7, 171), (7, 188), (7, 176), (7, 153), (7, 178), (9, 0), (9, 2), (0, 119), (1, 18), (9, 58), (9, 60), (0, 127), (7, 189), (7, 154), (7, 177)] rfl (by decide +kernel)) (goodIn_app gb_f_RX12 (goodIn_app gb_wqX12_next gb_wqX12_text))
set_option maxRecDepth 100000 in
theorem gl_wqX12_load_22 : GoodIn lw_tbl (wsV RL 22 RX12 yX12_load wqX12_load) := goodIn_app (goodIn_c _ [(8, 236), (8, 237), (8, 238), (1, 18)] rfl (by decide +kernel)) gb_wqX12_load
set_option maxRecDepth 100000 in
theorem gb_wsX11_fault : GoodIn lw_tbl wsX11_fault := goodIn_c _ [(4, 224), (2, 198), (2, 205), (2, 207), (2, 209), (2, 211), (2, 213), (2, 215), (2, 217), (2, 219), (2, 221)] rfl (by decide +kernel)
set_option maxRecDepth 100000 in
theorem gl_wsX11_fault_23 : GoodIn lw_tbl (wsV RL 23 RX11 yX11_fault wsX11_fault) := goodIn_app (goodIn_c _ [(4, 221), (4, 222), (4, 223), (1, 1)] rfl (by decide +kernel)) gb_wsX11_fault
set_option maxRecDepth 100000 in
theorem gb_wqX12_fault : GoodIn lw_tbl wqX12_fault := by
  unfold wqX12_fault
  exact goodIn_ca (goodIn_c _ [(10, 62), (7, 149), (7, 189)] rfl (by decide +kernel)) gb_f_RX12
set_option maxRecDepth 100000 in
theorem gl_wqX12_fault_27 : GoodIn lw_tbl (wsV RL 27 RX12 yX12_fault wqX12_fault) := goodIn_app (goodIn_c _ [(10, 59), (10, 60), (10, 61), (1, 18)] rfl (by decide +kernel)) gb_wqX12_fault
set_option maxRecDepth 100000 in
theorem gb_wsX11_letter : GoodIn lw_tbl wsX11_letter := goodIn_c _ [(4, 228), (2, 199), (4, 229), (4, 230), (4, 231), (1, 2), (4, 232), (1, 90), (1, 87), (4, 233), (2, 205), (2, 207), (2, 209), (2, 211), (2, 213), (2, 215), (2, 217), (2, 219), (2, 221), (1, 92), (1, 94), (1, 96), (1, 98), (1, 100)] rfl (by decide +kernel)
set_option maxRecDepth 100000 in
theorem gl_wsX11_letter_28 : GoodIn lw_tbl (wsV RL 28 RX11 yX11_letter wsX11_letter) := goodIn_app (goodIn_c _ [(4, 225), (4, 226), (4, 227), (1, 1)] rfl (by decide +kernel)) gb_wsX11_letter
set_option maxRecDepth 100000 in
theorem gb_wqX12_letter : GoodIn lw_tbl wqX12_letter := by
  unfold wqX12_letter
  exact goodIn_ca (goodIn_c _ [(8, 231), (7, 149), (7, 153), (7, 152), (7, 145)] rfl (by decide +kernel)) gb_f_RX12
set_option maxRecDepth 100000 in
theorem gl_wqX12_letter_31 : GoodIn lw_tbl (wsV RL 31 RX12 yX12_letter wqX12_letter) := goodIn_app (goodIn_c _ [(8, 228), (8, 229), (8, 230), (1, 18)] rfl (by decide +kernel)) gb_wqX12_letter
set_option maxRecDepth 100000 in
theorem gb_wsX11_rule : GoodIn lw_tbl wsX11_rule := goodIn_c _ [(4, 237), (2, 200), (2, 236), (2, 237), (1, 1), (2, 238), (4, 238), (4, 239), (5, 0), (1, 7), (5, 1), (1, 115), (5, 2), (5, 3), (5, 4), (2, 205), (2, 207), (2, 209), (2, 211), (2, 213), (2, 215), (2, 217), (2, 219), (2, 221), (1, 121), (1, 123), (1, 125), (1, 127), (1, 129), (1, 131)] rfl (by decide +kernel)
set_option maxRecDepth 100000 in
theorem gl_wsX11_rule_32 : GoodIn lw_tbl (wsV RL 32 RX11 yX11_rule wsX11_rule) := goodIn_app (goodIn_c _ [(4, 234), (4, 235), (4, 236), (1, 1)] rfl (by decide +kernel)) gb_wsX11_rule
set_option maxRecDepth 100000 in
theorem gb_wqX12_rule : GoodIn lw_tbl wqX12_rule := by
  unfold wqX12_rule
  exact goodIn_ca (goodIn_c _ [(10, 66), (7, 149), (8, 9)] rfl (by decide +kernel)) gb_f_RX12
set_option maxRecDepth 100000 in
theorem gl_wqX12_rule_36 : GoodIn lw_tbl (wsV RL 36 RX12 yX12_rule wqX12_rule) := goodIn_app (goodIn_c _ [(10, 63), (10, 64), (10, 65), (1, 18)] rfl (by decide +kernel)) gb_wqX12_rule
set_option maxRecDepth 100000 in
theorem gb_wsX11_entry : GoodIn lw_tbl wsX11_entry := goodIn_c _ [(5, 8), (2, 200), (2, 236), (2, 237), (1, 1), (2, 238), (5, 9), (5, 11), (0, 60), (5, 12), (2, 199), (5, 13), (5, 14), (5, 15), (1, 2), (5, 16), (1, 90), (5, 17), (5, 18), (5, 19), (1, 7), (5, 20), (1, 116), (5, 2), (5, 3), (5, 4), (5, 21), (5, 22), (5, 23), (5, 24), (1, 120), (1, 117), (1, 118), (1, 119), (5, 25), (5, 27), (0, 61), (5, 28), (2, 205), (2, 207), (2, 209), (2, 211), (2, 213), (2, 215), (2, 217), (2, 219), (2, 221), (1, 92), (1, 94), (1, 96), (1, 98), (1, 100), (1, 121), (1, 123), (1, 125), (1, 127), (1, 129), (1, 131)] rfl (by decide +kernel)
set_option maxRecDepth 100000 in
theorem gl_wsX11_entry_37 : GoodIn lw_tbl (wsV RL 37 RX11 yX11_entry wsX11_entry) := goodIn_app (goodIn_c _ [(5, 5), (5, 6), (5, 7), (1, 1)] rfl (by decide +kernel)) gb_wsX11_entry
set_option maxRecDepth 100000 in
theorem gb_wqX12_canFail : GoodIn lw_tbl wqX12_canFail := by
  unfold wqX12_canFail
  exact goodIn_ca (goodIn_c _ [(10, 74), (7, 153)] rfl (by decide +kernel)) gb_f_RX12
set_option maxRecDepth 100000 in
theorem gb_wqX12_entryOf : GoodIn lw_tbl wqX12_entryOf := by
  unfold wqX12_entryOf
  exact goodIn_ca (goodIn_c _ [(10, 78), (8, 13)] rfl (by decide +kernel)) gb_f_RX12
set_option maxRecDepth 100000 in
theorem gb_wqX12_entry : GoodIn lw_tbl wqX12_entry := by
  unfold wqX12_entry
  exact goodIn_ca (goodIn_c _ [(10, 70), (7, 149), (10, 71), (10, 73), (0, 186), (1, 18), (10, 75), (10, 77), (0, 187), (8, 13), (8, 10), (8, 11), (8, 12), (8, 14)] rfl (by decide +kernel)) (goodIn_app gb_f_RX12 (goodIn_app gb_wqX12_canFail gb_wqX12_entryOf))
set_option maxRecDepth 100000 in
theorem gl_wqX12_entry_41 : GoodIn lw_tbl (wsV RL 41 RX12 yX12_entry wqX12_entry) := goodIn_app (goodIn_c _ [(10, 67), (10, 68), (10, 69), (1, 18)] rfl (by decide +kernel)) gb_wqX12_entry
set_option maxRecDepth 100000 in
theorem gb_wqX11_callq : GoodIn lw_tbl wqX11_callq := by
  unfold wqX11_callq
  exact goodIn_ca (goodIn_c _ [(5, 32), (2, 236), (2, 237), (1, 1), (2, 201), (4, 220), (3, 190), (3, 191), (1, 9)] rfl (by decide +kernel)) (goodIn_app gb_wsX11_isTongue (goodIn_app gb_f_RX11 gb_wsX8_functions))
set_option maxRecDepth 100000 in
theorem gl_wqX11_callq_44 : GoodIn lw_tbl (wsV RL 44 RX11 yX11_call wqX11_callq) := goodIn_app (goodIn_c _ [(5, 29), (5, 30), (5, 31), (1, 1)] rfl (by decide +kernel)) gb_wqX11_callq
set_option maxRecDepth 100000 in
theorem gb_wqX12_call_ : GoodIn lw_tbl wqX12_call_ := by
  unfold wqX12_call_
  exact goodIn_ca (goodIn_c _ [(10, 82), (7, 149), (7, 176)] rfl (by decide +kernel)) gb_f_RX12
set_option maxRecDepth 100000 in
theorem gl_wqX12_call__48 : GoodIn lw_tbl (wsV RL 48 RX12 yX12_call_ wqX12_call_) := goodIn_app (goodIn_c _ [(10, 79), (10, 80), (10, 81), (1, 18)] rfl (by decide +kernel)) gb_wqX12_call_
set_option maxRecDepth 100000 in
theorem gb_wsX11_look : GoodIn lw_tbl wsX11_look := goodIn_c _ [(7, 81), (2, 199), (2, 204), (5, 13), (5, 14), (5, 15), (1, 2), (5, 16), (1, 90), (7, 82), (7, 83), (7, 84), (1, 14), (7, 85), (2, 153), (2, 205), (2, 207), (2, 209), (2, 211), (2, 213), (2, 215), (2, 217), (2, 219), (2, 221), (1, 92), (1, 94), (1, 96), (1, 98), (1, 100), (2, 161), (2, 163), (2, 165), (2, 167), (2, 169), (2, 171), (2, 173), (2, 175), (2, 177), (2, 179), (2, 181), (2, 183), (2, 185), (2, 187), (2, 189), (2, 191), (2, 193)] rfl (by decide +kernel)
set_option maxRecDepth 100000 in
theorem gl_wsX11_look_49 : GoodIn lw_tbl (wsV RL 49 RX11 yX11_look wsX11_look) := goodIn_app (goodIn_c _ [(7, 78), (7, 79), (7, 80), (1, 1)] rfl (by decide +kernel)) gb_wsX11_look
set_option maxRecDepth 100000 in
theorem gb_wqX12_look : GoodIn lw_tbl wqX12_look := by
  unfold wqX12_look
  exact goodIn_ca (goodIn_c _ [(11, 55), (7, 149), (7, 233), (8, 0), (7, 153), (8, 1)] rfl (by decide +kernel)) gb_f_RX12
set_option maxRecDepth 100000 in
theorem gl_wqX12_look_53 : GoodIn lw_tbl (wsV RL 53 RX12 yX12_look wqX12_look) := goodIn_app (goodIn_c _ [(11, 52), (11, 53), (11, 54), (1, 18)] rfl (by decide +kernel)) gb_wqX12_look
set_option maxRecDepth 100000 in
theorem gb_wsX11_answer : GoodIn lw_tbl wsX11_answer := goodIn_c _ [(7, 89), (2, 204), (7, 90), (7, 91), (7, 92), (1, 14), (7, 93), (2, 160), (2, 205), (2, 207), (2, 209), (2, 211), (2, 213), (2, 215), (2, 217), (2, 219), (2, 221), (2, 161), (2, 163), (2, 165), (2, 167), (2, 169), (2, 171), (2, 173), (2, 175), (2, 177), (2, 179), (2, 181), (2, 183), (2, 185), (2, 187), (2, 189), (2, 191), (2, 193)] rfl (by decide +kernel)
set_option maxRecDepth 100000 in
theorem gl_wsX11_answer_54 : GoodIn lw_tbl (wsV RL 54 RX11 yX11_answer wsX11_answer) := goodIn_app (goodIn_c _ [(7, 86), (7, 87), (7, 88), (1, 1)] rfl (by decide +kernel)) gb_wsX11_answer
set_option maxRecDepth 100000 in
theorem gb_wqX12_answer : GoodIn lw_tbl wqX12_answer := by
  unfold wqX12_answer
  exact goodIn_ca (goodIn_c _ [(11, 59), (7, 149), (8, 4)] rfl (by decide +kernel)) gb_f_RX12
set_option maxRecDepth 100000 in
theorem gl_wqX12_answer_58 : GoodIn lw_tbl (wsV RL 58 RX12 yX12_answer wqX12_answer) := goodIn_app (goodIn_c _ [(11, 56), (11, 57), (11, 58), (1, 18)] rfl (by decide +kernel)) gb_wqX12_answer
set_option maxRecDepth 100000 in
theorem gb_wsX11_mark : GoodIn lw_tbl wsX11_mark := goodIn_c _ [(7, 97), (2, 204), (7, 98), (7, 99), (7, 100), (1, 14), (7, 101), (2, 149), (6, 146), (5, 156), (5, 157), (1, 10), (5, 158), (1, 153), (1, 150), (6, 106), (5, 206), (5, 207), (5, 208), (1, 152), (6, 107), (6, 108), (1, 20), (6, 109), (5, 45), (6, 110), (6, 111), (6, 112), (6, 113), (6, 84), (5, 160), (5, 161), (5, 162), (1, 151), (2, 205), (2, 207), (2, 209), (2, 211), (2, 213), (2, 215), (2, 217), (2, 219), (2, 221), (2, 161), (2, 163), (2, 165), (2, 167), (2, 169), (2, 171), (2, 173), (2, 175), (2, 177), (2, 179), (2, 181), (2, 183), (2, 185), (2, 187), (2, 189), (2, 191), (2, 193), (1, 154), (1, 156), (1, 158), (1, 160)] rfl (by decide +kernel)
set_option maxRecDepth 100000 in
theorem gl_wsX11_mark_59 : GoodIn lw_tbl (wsV RL 59 RX11 yX11_mark wsX11_mark) := goodIn_app (goodIn_c _ [(7, 94), (7, 95), (7, 96), (1, 1)] rfl (by decide +kernel)) gb_wsX11_mark
set_option maxRecDepth 100000 in
theorem gb_wqX12_mark : GoodIn lw_tbl wqX12_mark := by
  unfold wqX12_mark
  exact goodIn_ca (goodIn_c _ [(11, 63), (7, 149), (7, 234)] rfl (by decide +kernel)) gb_f_RX12
set_option maxRecDepth 100000 in
theorem gl_wqX12_mark_63 : GoodIn lw_tbl (wsV RL 63 RX12 yX12_mark wqX12_mark) := goodIn_app (goodIn_c _ [(11, 60), (11, 61), (11, 62), (1, 18)] rfl (by decide +kernel)) gb_wqX12_mark
set_option maxRecDepth 100000 in
theorem gb_wsX11_markTongue : GoodIn lw_tbl wsX11_markTongue := goodIn_c _ [(7, 105), (2, 204), (7, 106), (7, 107), (7, 108), (1, 14), (7, 109), (2, 149), (5, 79), (4, 81), (4, 82), (1, 10), (4, 83), (1, 153), (6, 146), (5, 156), (5, 157), (5, 158), (1, 150), (2, 205), (2, 207), (2, 209), (2, 211), (2, 213), (2, 215), (2, 217), (2, 219), (2, 221), (2, 161), (2, 163), (2, 165), (2, 167), (2, 169), (2, 171), (2, 173), (2, 175), (2, 177), (2, 179), (2, 181), (2, 183), (2, 185), (2, 187), (2, 189), (2, 191), (2, 193), (1, 154), (1, 156), (1, 158), (1, 160)] rfl (by decide +kernel)
set_option maxRecDepth 100000 in
theorem gl_wsX11_markTongue_64 : GoodIn lw_tbl (wsV RL 64 RX11 yX11_markTongue wsX11_markTongue) := goodIn_app (goodIn_c _ [(7, 102), (7, 103), (7, 104), (1, 1)] rfl (by decide +kernel)) gb_wsX11_markTongue
set_option maxRecDepth 100000 in
theorem gb_wqX12_markTongue : GoodIn lw_tbl wqX12_markTongue := by
  unfold wqX12_markTongue
  exact goodIn_ca (goodIn_c _ [(11, 67), (7, 149), (7, 234)] rfl (by decide +kernel)) gb_f_RX12
set_option maxRecDepth 100000 in
theorem gl_wqX12_markTongue_67 : GoodIn lw_tbl (wsV RL 67 RX12 yX12_markTongue wqX12_markTongue) := goodIn_app (goodIn_c _ [(11, 64), (11, 65), (11, 66), (1, 18)] rfl (by decide +kernel)) gb_wqX12_markTongue
set_option maxRecDepth 100000 in
theorem gb_wsX11_failure : GoodIn lw_tbl wsX11_failure := goodIn_c _ [(7, 113), (2, 204), (7, 114), (7, 115), (7, 116), (1, 14), (7, 117), (2, 150), (2, 159), (7, 118), (7, 119), (7, 120), (1, 15), (7, 121), (7, 122), (5, 169), (5, 170), (5, 171), (2, 68), (2, 69), (2, 67), (5, 172), (5, 156), (5, 157), (1, 10), (5, 158), (1, 153), (1, 150), (5, 168), (2, 205), (2, 207), (2, 209), (2, 211), (2, 213), (2, 215), (2, 217), (2, 219), (2, 221), (2, 161), (2, 163), (2, 165), (2, 167), (2, 169), (2, 171), (2, 173), (2, 175), (2, 177), (2, 179), (2, 181), (2, 183), (2, 185), (2, 187), (2, 189), (2, 191), (2, 193), (2, 72), (2, 74), (2, 76), (2, 78), (2, 80), (1, 154), (1, 156), (1, 158), (1, 160)] rfl (by decide +kernel)
set_option maxRecDepth 100000 in
theorem gl_wsX11_failure_68 : GoodIn lw_tbl (wsV RL 68 RX11 yX11_failure wsX11_failure) := goodIn_app (goodIn_c _ [(7, 110), (7, 111), (7, 112), (1, 1)] rfl (by decide +kernel)) gb_wsX11_failure
set_option maxRecDepth 100000 in
theorem gb_wqX12_failureAt : GoodIn lw_tbl wqX12_failureAt := by
  unfold wqX12_failureAt
  exact goodIn_ca (goodIn_c _ [(11, 75), (8, 1)] rfl (by decide +kernel)) gb_f_RX12
set_option maxRecDepth 100000 in
theorem gb_wqX12_told : GoodIn lw_tbl wqX12_told := by
  unfold wqX12_told
  exact goodIn_c _ [(11, 79)] rfl (by decide +kernel)
set_option maxRecDepth 100000 in
theorem gb_wqX12_failure : GoodIn lw_tbl wqX12_failure := by
  unfold wqX12_failure
  exact goodIn_ca (goodIn_c _ [(11, 71), (7, 149), (11, 72), (11, 74), (0, 234), (1, 18), (11, 76), (11, 78), (0, 235)] rfl (by decide +kernel)) (goodIn_app gb_f_RX12 (goodIn_app gb_wqX12_failureAt gb_wqX12_told))
set_option maxRecDepth 100000 in
theorem gl_wqX12_failure_71 : GoodIn lw_tbl (wsV RL 71 RX12 yX12_failure wqX12_failure) := goodIn_app (goodIn_c _ [(11, 68), (11, 69), (11, 70), (1, 18)] rfl (by decide +kernel)) gb_wqX12_failure
set_option maxRecDepth 100000 in
theorem gb_wsX11_under : GoodIn lw_tbl wsX11_under := goodIn_c _ [(7, 126), (2, 204), (7, 127), (7, 128), (7, 129), (1, 14), (7, 130), (2, 150), (2, 159), (7, 118), (7, 119), (7, 120), (1, 15), (7, 121), (7, 122), (5, 169), (5, 170), (5, 171), (2, 68), (2, 69), (2, 67), (5, 172), (5, 156), (5, 157), (1, 10), (5, 158), (1, 153), (1, 150), (7, 131), (7, 132), (7, 133), (7, 134), (2, 71), (2, 70), (5, 168), (2, 205), (2, 207), (2, 209), (2, 211), (2, 213), (2, 215), (2, 217), (2, 219), (2, 221), (2, 161), (2, 163), (2, 165), (2, 167), (2, 169), (2, 171), (2, 173), (2, 175), (2, 177), (2, 179), (2, 181), (2, 183), (2, 185), (2, 187), (2, 189), (2, 191), (2, 193), (2, 72), (2, 74), (2, 76), (2, 78), (2, 80), (1, 154), (1, 156), (1, 158), (1, 160)] rfl (by decide +kernel)
set_option maxRecDepth 100000 in
theorem gl_wsX11_under_72 : GoodIn lw_tbl (wsV RL 72 RX11 yX11_under wsX11_under) := goodIn_app (goodIn_c _ [(7, 123), (7, 124), (7, 125), (1, 1)] rfl (by decide +kernel)) gb_wsX11_under
set_option maxRecDepth 100000 in
theorem gb_wqX12_under : GoodIn lw_tbl wqX12_under := by
  unfold wqX12_under
  exact goodIn_ca (goodIn_c _ [(11, 87), (7, 149), (11, 72), (11, 74), (0, 234), (1, 18)] rfl (by decide +kernel)) (goodIn_app gb_f_RX12 gb_wqX12_failureAt)
set_option maxRecDepth 100000 in
theorem gl_wqX12_under_76 : GoodIn lw_tbl (wsV RL 76 RX12 yX12_under wqX12_under) := goodIn_app (goodIn_c _ [(11, 84), (11, 85), (11, 86), (1, 18)] rfl (by decide +kernel)) gb_wqX12_under
theorem in_law_RX0 : ∀ w ∈ u_ws RX0 TX0 6, w ∈ lw_tbl := fun w h => (gb_f_RX0 w h).1
theorem in_law_RX1 : ∀ w ∈ u_ws RX1 TX1 5, w ∈ lw_tbl := fun w h => (gb_f_RX1 w h).1
theorem in_law_RX10 : ∀ w ∈ u_ws RX10 TX10 16, w ∈ lw_tbl := fun w h => (gb_f_RX10 w h).1
theorem in_law_RX11 : ∀ w ∈ u_ws RX11 TX11 9, w ∈ lw_tbl := fun w h => (gb_f_RX11 w h).1
theorem in_law_RX12 : ∀ w ∈ u_ws RX12 TX12 106, w ∈ lw_tbl := fun w h => (gb_f_RX12 w h).1
theorem in_law_RX2 : ∀ w ∈ u_ws RX2 TX2 8, w ∈ lw_tbl := fun w h => (gb_f_RX2 w h).1
theorem in_law_RX3 : ∀ w ∈ u_ws RX3 TX3 7, w ∈ lw_tbl := fun w h => (gb_f_RX3 w h).1
theorem in_law_RX4 : ∀ w ∈ u_ws RX4 TX4 17, w ∈ lw_tbl := fun w h => (gb_f_RX4 w h).1
theorem in_law_RX5 : ∀ w ∈ u_ws RX5 TX5 5, w ∈ lw_tbl := fun w h => (gb_f_RX5 w h).1
theorem in_law_RX7 : ∀ w ∈ u_ws RX7 TX7 11, w ∈ lw_tbl := fun w h => (gb_f_RX7 w h).1
theorem in_law_RX8 : ∀ w ∈ u_ws RX8 TX8 8, w ∈ lw_tbl := fun w h => (gb_f_RX8 w h).1
theorem in_law_RX9 : ∀ w ∈ u_ws RX9 TX9 4, w ∈ lw_tbl := fun w h => (gb_f_RX9 w h).1
