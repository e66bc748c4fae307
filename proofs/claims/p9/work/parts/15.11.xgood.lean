set_option maxRecDepth 20000 in
theorem ggX11_signs_X7_isLegal : GoodIn wsX11_signs wsX7_isLegal := goodIn_r _ [11, 12, 13, 14, 15, 16, 17, 18, 19, 20, 21, 22, 23, 24, 25, 26, 27, 28, 29, 30, 31, 32, 33, 34, 35, 36, 37, 38, 39, 40, 41, 42, 43, 44, 45, 46, 47, 10, 48, 49, 50, 51, 52, 53, 54, 55, 56, 57, 58, 59, 60, 61, 62, 63, 64, 65, 66, 67, 68, 69, 70, 71, 72, 73, 74, 75, 76, 77, 78, 79, 80, 81, 82, 83, 84, 85, 199, 200, 201, 202, 203, 204, 205, 206, 207] rfl (by decide +kernel)
set_option maxRecDepth 20000 in
theorem gX11_signs_X7_isLegal : GoodIn wsX11_signs (wsV RX11 140 RX7 yX7_isLegal wsX7_isLegal) := goodIn_app (goodIn_of _ (by decide +kernel)) ggX11_signs_X7_isLegal
set_option maxRecDepth 20000 in
theorem ggX11_signs_X6_keep : GoodIn wsX11_signs wsX6_keep := goodIn_r _ [90, 91, 208, 209] rfl (by decide +kernel)
set_option maxRecDepth 20000 in
theorem gX11_signs_X6_keep : GoodIn wsX11_signs (wsV RX11 87 RX6 yX6_keep wsX6_keep) := goodIn_app (goodIn_of _ (by decide +kernel)) ggX11_signs_X6_keep
set_option maxRecDepth 20000 in
theorem ggX11_signs_X9_putSigns : GoodIn wsX11_signs wsX9_putSigns := goodIn_r _ [96, 97, 98, 33, 34, 15, 35, 17, 99, 100, 101, 89, 102, 103, 104, 105, 106, 107, 108, 109, 110, 111, 112, 113, 114, 115, 116, 117, 118, 119, 120, 121, 122, 123, 124, 125, 126, 127, 128, 129, 130, 131, 132, 133, 134, 135, 136, 137, 138, 139, 140, 141, 142, 143, 144, 145, 146, 147, 148, 149, 150, 151, 152, 153, 154, 155, 91, 156, 157, 158, 61, 62, 63, 159, 160, 161, 162, 19, 20, 21, 22, 163, 164, 165, 166, 167, 168, 169, 170, 171, 95, 172, 173, 174, 13, 14, 16, 18, 23, 24, 25, 26, 27, 28, 29, 30, 31, 32, 36, 37, 38, 39, 40, 175, 46, 47, 10, 48, 49, 50, 51, 52, 53, 54, 55, 56, 57, 58, 59, 60, 64, 65, 66, 67, 68, 69, 70, 71, 72, 73, 74, 75, 76, 77, 78, 79, 80, 81, 82, 83, 84, 85, 176, 177, 178, 179, 180, 181, 182, 183, 184, 12, 45, 210, 199, 200, 201, 202, 203, 204, 205, 208, 209, 206, 207] rfl (by decide +kernel)
set_option maxRecDepth 20000 in
theorem gX11_signs_X9_putSigns : GoodIn wsX11_signs (wsV RX11 151 RX9 yX9_putSigns wsX9_putSigns) := goodIn_app (goodIn_of _ (by decide +kernel)) ggX11_signs_X9_putSigns
set_option maxRecDepth 20000 in
theorem ggX11_signs_X6_size : GoodIn wsX11_signs wsX6_size := goodIn_r _ [188, 91, 208, 209] rfl (by decide +kernel)
set_option maxRecDepth 20000 in
theorem gX11_signs_X6_size : GoodIn wsX11_signs (wsV RX11 75 RX6 yX6_size wsX6_size) := goodIn_app (goodIn_of _ (by decide +kernel)) ggX11_signs_X6_size
set_option maxRecDepth 20000 in
theorem ggX11_node_X1_has : GoodIn wsX11_node wsX1_has := goodIn_r _ [14, 15, 45, 46, 47, 48, 49, 50, 51, 52] rfl (by decide +kernel)
set_option maxRecDepth 20000 in
theorem gX11_node_X1_has : GoodIn wsX11_node (wsV RX11 161 RX1 yX1_has wsX1_has) := goodIn_app (goodIn_of _ (by decide +kernel)) ggX11_node_X1_has
set_option maxRecDepth 20000 in
theorem ggX11_node_X1_at : GoodIn wsX11_node wsX1_at := goodIn_r _ [19, 15, 20, 21, 45, 46, 47, 48, 49, 50, 51, 52] rfl (by decide +kernel)
set_option maxRecDepth 20000 in
theorem gX11_node_X1_at : GoodIn wsX11_node (wsV RX11 124 RX1 yX1_at wsX1_at) := goodIn_app (goodIn_of _ (by decide +kernel)) ggX11_node_X1_at
set_option maxRecDepth 20000 in
theorem ggX11_node_X6_size : GoodIn wsX11_node wsX6_size := goodIn_r _ [26, 27, 53, 54] rfl (by decide +kernel)
set_option maxRecDepth 20000 in
theorem gX11_node_X6_size : GoodIn wsX11_node (wsV RX11 75 RX6 yX6_size wsX6_size) := goodIn_app (goodIn_of _ (by decide +kernel)) ggX11_node_X6_size
set_option maxRecDepth 20000 in
theorem ggX11_mark_X1_has : GoodIn wsX11_mark wsX1_has := goodIn_r _ [9, 10, 40, 41, 42, 43, 44, 45, 46, 47] rfl (by decide +kernel)
set_option maxRecDepth 20000 in
theorem gX11_mark_X1_has : GoodIn wsX11_mark (wsV RX11 161 RX1 yX1_has wsX1_has) := goodIn_app (goodIn_of _ (by decide +kernel)) ggX11_mark_X1_has
set_option maxRecDepth 20000 in
theorem ggX11_mark_X1_at : GoodIn wsX11_mark wsX1_at := goodIn_r _ [14, 10, 15, 16, 40, 41, 42, 43, 44, 45, 46, 47] rfl (by decide +kernel)
set_option maxRecDepth 20000 in
theorem gX11_mark_X1_at : GoodIn wsX11_mark (wsV RX11 124 RX1 yX1_at wsX1_at) := goodIn_app (goodIn_of _ (by decide +kernel)) ggX11_mark_X1_at
set_option maxRecDepth 20000 in
theorem ggX11_mark_X4_markAt : GoodIn wsX11_mark wsX4_markAt := goodIn_r _ [21, 22, 33, 34, 35, 36, 37, 38, 39] rfl (by decide +kernel)
set_option maxRecDepth 20000 in
theorem gX11_mark_X4_markAt : GoodIn wsX11_mark (wsV RX11 189 RX4 yX4_markAt wsX4_markAt) := goodIn_app (goodIn_of _ (by decide +kernel)) ggX11_mark_X4_markAt
set_option maxRecDepth 20000 in
theorem ggX11_remark_X1_has : GoodIn wsX11_remark wsX1_has := goodIn_r _ [9, 10, 45, 46, 47, 48, 49, 50, 51, 52] rfl (by decide +kernel)
set_option maxRecDepth 20000 in
theorem gX11_remark_X1_has : GoodIn wsX11_remark (wsV RX11 161 RX1 yX1_has wsX1_has) := goodIn_app (goodIn_of _ (by decide +kernel)) ggX11_remark_X1_has
set_option maxRecDepth 20000 in
theorem ggX11_remark_X1_at : GoodIn wsX11_remark wsX1_at := goodIn_r _ [14, 10, 15, 16, 45, 46, 47, 48, 49, 50, 51, 52] rfl (by decide +kernel)
set_option maxRecDepth 20000 in
theorem gX11_remark_X1_at : GoodIn wsX11_remark (wsV RX11 124 RX1 yX1_at wsX1_at) := goodIn_app (goodIn_of _ (by decide +kernel)) ggX11_remark_X1_at
set_option maxRecDepth 20000 in
theorem ggX11_remark_X6_size : GoodIn wsX11_remark wsX6_size := goodIn_r _ [21, 22, 53, 54] rfl (by decide +kernel)
set_option maxRecDepth 20000 in
theorem gX11_remark_X6_size : GoodIn wsX11_remark (wsV RX11 75 RX6 yX6_size wsX6_size) := goodIn_app (goodIn_of _ (by decide +kernel)) ggX11_remark_X6_size
set_option maxRecDepth 20000 in
theorem ggX11_remark_X6_at : GoodIn wsX11_remark wsX6_at := goodIn_r _ [26, 22, 27, 53, 54] rfl (by decide +kernel)
set_option maxRecDepth 20000 in
theorem gX11_remark_X6_at : GoodIn wsX11_remark (wsV RX11 155 RX6 yX6_at wsX6_at) := goodIn_app (goodIn_of _ (by decide +kernel)) ggX11_remark_X6_at
set_option maxRecDepth 20000 in
theorem ggX11_go_X1_has : GoodIn wsX11_go wsX1_has := goodIn_r _ [10, 11, 75, 76, 77, 78, 79, 80, 81, 82] rfl (by decide +kernel)
set_option maxRecDepth 20000 in
theorem gX11_go_X1_has : GoodIn wsX11_go (wsV RX11 161 RX1 yX1_has wsX1_has) := goodIn_app (goodIn_of _ (by decide +kernel)) ggX11_go_X1_has
set_option maxRecDepth 20000 in
theorem ggX11_go_X1_standAt : GoodIn wsX11_go wsX1_standAt := goodIn_r _ [15, 16, 17, 18, 19, 20, 21, 22, 9, 23, 11, 24, 25, 26, 27, 28, 29, 30, 31, 32, 33, 34, 35, 36, 37, 38, 39, 40, 41, 42, 43, 44, 45, 46, 47, 48, 49, 50, 51, 52, 53, 54, 55, 56, 57, 58, 59, 60, 61, 62, 63, 64, 75, 76, 77, 78, 79, 80, 81, 82, 83, 84, 85, 86, 87, 88, 89, 90, 91, 92, 93, 94, 95, 96] rfl (by decide +kernel)
set_option maxRecDepth 20000 in
theorem gX11_go_X1_standAt : GoodIn wsX11_go (wsV RX11 112 RX1 yX1_standAt wsX1_standAt) := goodIn_app (goodIn_of _ (by decide +kernel)) ggX11_go_X1_standAt
set_option maxRecDepth 20000 in
theorem ggX11_add_X7_isLegal : GoodIn wsX11_add wsX7_isLegal := goodIn_r _ [14, 15, 16, 17, 18, 19, 20, 21, 22, 23, 24, 25, 26, 27, 28, 29, 30, 31, 32, 33, 34, 35, 36, 37, 38, 39, 40, 41, 42, 43, 44, 45, 46, 47, 48, 49, 50, 13, 51, 52, 53, 54, 55, 56, 57, 58, 59, 60, 61, 62, 63, 64, 65, 66, 67, 68, 69, 70, 71, 72, 73, 74, 75, 76, 77, 78, 79, 80, 81, 82, 83, 84, 85, 86, 87, 88, 168, 169, 170, 171, 172, 173, 174, 175, 176] rfl (by decide +kernel)
set_option maxRecDepth 20000 in
theorem gX11_add_X7_isLegal : GoodIn wsX11_add (wsV RX11 140 RX7 yX7_isLegal wsX7_isLegal) := goodIn_app (goodIn_of _ (by decide +kernel)) ggX11_add_X7_isLegal
set_option maxRecDepth 20000 in
theorem ggX11_add_X1_childWith : GoodIn wsX11_add wsX1_childWith := goodIn_r _ [93, 94, 95, 96, 97, 98, 99, 92, 100, 101, 102, 103, 177, 178, 179, 180, 181, 182, 183, 160, 161, 162, 163, 164, 165, 166, 167] rfl (by decide +kernel)
set_option maxRecDepth 20000 in
theorem gX11_add_X1_childWith : GoodIn wsX11_add (wsV RX11 205 RX1 yX1_childWith wsX1_childWith) := goodIn_app (goodIn_of _ (by decide +kernel)) ggX11_add_X1_childWith
set_option maxRecDepth 20000 in
theorem ggX11_add_X1_deepOfNext : GoodIn wsX11_add wsX1_deepOfNext := goodIn_r _ [107, 94, 108, 97, 98, 99, 92, 100, 101, 102, 103, 109, 110, 111, 112, 177, 178, 179, 180, 181, 182, 183, 160, 161, 162, 163, 164, 165, 166, 167] rfl (by decide +kernel)
set_option maxRecDepth 20000 in
theorem gX11_add_X1_deepOfNext : GoodIn wsX11_add (wsV RX11 209 RX1 yX1_deepOfNext wsX1_deepOfNext) := goodIn_app (goodIn_of _ (by decide +kernel)) ggX11_add_X1_deepOfNext
set_option maxRecDepth 20000 in
theorem ggX11_add_X1_grow : GoodIn wsX11_add wsX1_grow := goodIn_r _ [116, 101, 94, 96, 102, 117, 118, 119, 97, 98, 99, 92, 100, 103, 120, 121, 122, 123, 124, 125, 126, 127, 128, 129, 130, 131, 132, 133, 134, 135, 136, 137, 138, 139, 140, 141, 142, 143, 144, 145, 146, 147, 148, 160, 161, 162, 163, 164, 165, 166, 167, 177, 178, 179, 180, 181, 182, 183, 184, 185] rfl (by decide +kernel)
set_option maxRecDepth 20000 in
theorem gX11_add_X1_grow : GoodIn wsX11_add (wsV RX11 217 RX1 yX1_grow wsX1_grow) := goodIn_app (goodIn_of _ (by decide +kernel)) ggX11_add_X1_grow
set_option maxRecDepth 20000 in
theorem ggX11_add_X0_play : GoodIn wsX11_add wsX0_play := goodIn_r _ [73, 30, 20, 21, 43, 69, 22, 23, 24, 18, 25, 35, 36, 37, 38, 74, 75, 76, 77, 67, 68, 78, 79, 80, 81, 82, 83, 84, 168, 169, 170, 171, 172, 173, 174] rfl (by decide +kernel)
set_option maxRecDepth 20000 in
theorem gX11_add_X0_play : GoodIn wsX11_add (wsV RX11 220 RX0 yX0_play wsX0_play) := goodIn_app (goodIn_of _ (by decide +kernel)) ggX11_add_X0_play
set_option maxRecDepth 20000 in
theorem ggX11_addMark_X1_at : GoodIn wsX11_addMark wsX1_at := goodIn_r _ [12, 13, 14, 15, 40, 41, 42, 43, 44, 45, 46, 47] rfl (by decide +kernel)
set_option maxRecDepth 20000 in
theorem gX11_addMark_X1_at : GoodIn wsX11_addMark (wsV RX11 124 RX1 yX1_at wsX1_at) := goodIn_app (goodIn_of _ (by decide +kernel)) ggX11_addMark_X1_at
set_option maxRecDepth 20000 in
theorem ggX11_addMark_X4_putMark : GoodIn wsX11_addMark wsX4_putMark := goodIn_r _ [20, 21, 22, 33, 34, 35, 36, 37, 38, 39] rfl (by decide +kernel)
set_option maxRecDepth 20000 in
theorem gX11_addMark_X4_putMark : GoodIn wsX11_addMark (wsV RX11 230 RX4 yX4_putMark wsX4_putMark) := goodIn_app (goodIn_of _ (by decide +kernel)) ggX11_addMark_X4_putMark
set_option maxRecDepth 20000 in
theorem ggX11_say_X6_size : GoodIn wsX11_say wsX6_size := goodIn_r _ [11, 12, 72, 73] rfl (by decide +kernel)
set_option maxRecDepth 20000 in
theorem gX11_say_X6_size : GoodIn wsX11_say (wsV RX11 75 RX6 yX6_size wsX6_size) := goodIn_app (goodIn_of _ (by decide +kernel)) ggX11_say_X6_size
set_option maxRecDepth 20000 in
theorem ggX11_say_X6_indexOf : GoodIn wsX11_say wsX6_indexOf := goodIn_r _ [16, 17, 18, 19, 20, 12, 21, 72, 73] rfl (by decide +kernel)
set_option maxRecDepth 20000 in
theorem gX11_say_X6_indexOf : GoodIn wsX11_say (wsV RX11 233 RX6 yX6_indexOf wsX6_indexOf) := goodIn_app (goodIn_of _ (by decide +kernel)) ggX11_say_X6_indexOf
set_option maxRecDepth 20000 in
theorem ggX11_say_X1_at : GoodIn wsX11_say wsX1_at := goodIn_r _ [26, 27, 28, 29, 74, 75, 76, 77, 78, 79, 80, 81] rfl (by decide +kernel)
set_option maxRecDepth 20000 in
theorem gX11_say_X1_at : GoodIn wsX11_say (wsV RX11 124 RX1 yX1_at wsX1_at) := goodIn_app (goodIn_of _ (by decide +kernel)) ggX11_say_X1_at
set_option maxRecDepth 20000 in
theorem ggX11_say_X6_copyFrom : GoodIn wsX11_say wsX6_copyFrom := goodIn_r _ [33, 12, 34, 35, 36, 10, 37, 38, 39, 40, 41, 21, 42, 43, 44, 45, 46, 47, 48, 49, 50, 72, 73] rfl (by decide +kernel)
set_option maxRecDepth 20000 in
theorem gX11_say_X6_copyFrom : GoodIn wsX11_say (wsV RX11 239 RX6 yX6_copyFrom wsX6_copyFrom) := goodIn_app (goodIn_of _ (by decide +kernel)) ggX11_say_X6_copyFrom
set_option maxRecDepth 20000 in
theorem ggX11_say_X6_keep : GoodIn wsX11_say wsX6_keep := goodIn_r _ [54, 12, 72, 73] rfl (by decide +kernel)
set_option maxRecDepth 20000 in
theorem gX11_say_X6_keep : GoodIn wsX11_say (wsV RX11 87 RX6 yX6_keep wsX6_keep) := goodIn_app (goodIn_of _ (by decide +kernel)) ggX11_say_X6_keep
set_option maxRecDepth 20000 in
theorem ggX11_lead_X1_goesOn : GoodIn wsX11_lead wsX1_goesOn := goodIn_r _ [9, 10, 11, 12, 13, 14, 8, 15, 16, 17, 18, 39, 40, 41, 42, 43, 44, 45, 46, 47, 48, 49, 50, 51, 52, 53] rfl (by decide +kernel)
set_option maxRecDepth 20000 in
theorem gX11_lead_X1_goesOn : GoodIn wsX11_lead (wsV RX11 244 RX1 yX1_goesOn wsX1_goesOn) := goodIn_app (goodIn_of _ (by decide +kernel)) ggX11_lead_X1_goesOn
set_option maxRecDepth 20000 in
theorem ggX11_lead_X1_mayLead : GoodIn wsX11_lead wsX1_mayLead := goodIn_r _ [22, 23, 16, 10, 11, 12, 13, 14, 8, 15, 17, 18, 46, 47, 48, 49, 50, 51, 52, 53, 39, 40, 41, 42, 43, 44, 45] rfl (by decide +kernel)
set_option maxRecDepth 20000 in
theorem gX11_lead_X1_mayLead : GoodIn wsX11_lead (wsV RX11 247 RX1 yX1_mayLead wsX1_mayLead) := goodIn_app (goodIn_of _ (by decide +kernel)) ggX11_lead_X1_mayLead
set_option maxRecDepth 20000 in
theorem ggX11_lead_X1_putFirst : GoodIn wsX11_lead wsX1_putFirst := goodIn_r _ [27, 10, 11, 28, 12, 13, 14, 8, 15, 16, 17, 18, 39, 40, 41, 42, 43, 44, 45, 46, 47, 48, 49, 50, 51, 52, 53] rfl (by decide +kernel)
set_option maxRecDepth 20000 in
theorem gX11_lead_X1_putFirst : GoodIn wsX11_lead (wsV RX11 252 RX1 yX1_putFirst wsX1_putFirst) := goodIn_app (goodIn_of _ (by decide +kernel)) ggX11_lead_X1_putFirst
set_option maxRecDepth 20000 in
theorem ggX11_tag_X1_tagAt : GoodIn wsX11_tag wsX1_tagAt := goodIn_r _ [11, 12, 13, 14, 15, 16, 17, 18, 19, 20, 21, 22, 23, 24, 25, 26, 27, 28, 29, 30, 31, 32, 47, 48, 49, 50, 51, 52, 53, 54, 55, 56, 57, 58] rfl (by decide +kernel)
set_option maxRecDepth 20000 in
theorem gX11_tag_X1_tagAt : GoodIn wsX11_tag (wsV RX11 265 RX1 yX1_tagAt wsX1_tagAt) := goodIn_app (goodIn_of _ (by decide +kernel)) ggX11_tag_X1_tagAt
set_option maxRecDepth 20000 in
theorem ggX11_tag_X6_at : GoodIn wsX11_tag wsX6_at := goodIn_r _ [36, 32, 31, 57, 58] rfl (by decide +kernel)
set_option maxRecDepth 20000 in
theorem gX11_tag_X6_at : GoodIn wsX11_tag (wsV RX11 155 RX6 yX6_at wsX6_at) := goodIn_app (goodIn_of _ (by decide +kernel)) ggX11_tag_X6_at
