set_option maxRecDepth 20000 in
theorem ggX8_init_X7_init : GoodIn wsX8_init wsX7_init := goodIn_r _ [15, 16, 2, 3, 17, 18, 19, 20, 21, 22, 23, 24, 12, 25, 26, 27, 28, 29, 30, 31, 54, 55, 56, 57, 58, 59, 60, 38, 39] rfl (by decide +kernel)
set_option maxRecDepth 20000 in
theorem gX8_init_X7_init_n11 : GoodIn wsX8_init (wsX7_init) := ggX8_init_X7_init
set_option maxRecDepth 20000 in
theorem ggX8_init_X6_init : GoodIn wsX8_init wsX6_init := goodIn_r _ [33, 34, 2, 3, 35, 36, 37, 52, 53] rfl (by decide +kernel)
set_option maxRecDepth 20000 in
theorem gX8_init_X6_init_n20 : GoodIn wsX8_init (wsX6_init) := ggX8_init_X6_init
set_option maxRecDepth 20000 in
theorem ggX8_matched_X8_copyWhole : GoodIn wsX8_matched wsX8_copyWhole := goodIn_r _ [10, 11, 2, 12, 13, 14, 15, 16, 17, 18, 19, 20, 21, 22, 23, 24, 25, 26, 27, 28, 29, 30, 31, 32, 33, 34, 35, 277, 278, 279, 280, 281, 282, 283, 284, 285, 286, 287, 288, 289, 290] rfl (by decide +kernel)
set_option maxRecDepth 20000 in
theorem gX8_matched_X8_copyWhole : GoodIn wsX8_matched (wsV RX8 29 RX8 yX8_copyWhole wsX8_copyWhole) := goodIn_app (goodIn_of _ (by decide +kernel)) ggX8_matched_X8_copyWhole
set_option maxRecDepth 20000 in
theorem ggX8_matched_X8_parse : GoodIn wsX8_matched wsX8_parse := goodIn_r _ [39, 40, 11, 41, 42, 43, 5, 44, 45, 46, 15, 47, 17, 48, 49, 50, 51, 52, 53, 54, 55, 56, 57, 58, 59, 60, 61, 62, 63, 26, 64, 65, 66, 67, 68, 69, 70, 71, 72, 73, 74, 75, 76, 77, 78, 79, 80, 81, 82, 83, 84, 85, 86, 87, 88, 89, 90, 91, 92, 93, 94, 95, 96, 97, 98, 99, 100, 22, 23, 24, 25, 101, 102, 103, 104, 105, 106, 107, 108, 109, 110, 111, 112, 113, 114, 115, 116, 117, 118, 119, 120, 121, 122, 123, 124, 125, 126, 127, 128, 129, 130, 131, 132, 133, 134, 135, 136, 137, 138, 139, 140, 141, 142, 143, 144, 145, 146, 147, 148, 149, 150, 151, 152, 153, 154, 155, 156, 157, 158, 159, 160, 161, 162, 163, 164, 18, 19, 20, 21, 165, 166, 167, 168, 169, 170, 171, 172, 173, 174, 175, 9, 176, 177, 178, 277, 278, 279, 280, 281, 282, 283, 284, 285, 286, 287, 288, 289, 290] rfl (by decide +kernel)
set_option maxRecDepth 20000 in
theorem gX8_matched_X8_parse : GoodIn wsX8_matched (wsV RX8 33 RX8 yX8_parse wsX8_parse) := goodIn_app (goodIn_of _ (by decide +kernel)) ggX8_matched_X8_parse
set_option maxRecDepth 20000 in
theorem ggX8_matched_X8_gather : GoodIn wsX8_matched wsX8_gather := goodIn_r _ [182, 1, 183, 41, 43, 40, 3, 4, 184, 185, 186, 187, 188, 189, 190, 191, 192, 9, 193, 194, 42, 177, 178, 5, 195, 196, 197, 198, 199, 200, 201, 202, 203, 204, 205, 206, 207, 208, 209, 210, 211, 212, 213, 214, 215, 216, 217, 218, 219, 220, 221, 222, 223, 224, 225, 226, 227, 228, 229, 230, 231, 232, 233, 234, 235, 236, 237, 238, 239, 240, 241, 242, 243, 33, 34, 35, 244, 245, 246, 247, 248, 249, 250, 251, 252, 253, 254, 255, 256, 257, 258, 259, 260, 261, 262, 263, 264, 265, 277, 278, 279, 280, 281, 282, 283, 284, 285, 286, 287, 288, 291, 292, 293, 294, 295, 296, 297, 298, 299] rfl (by decide +kernel)
set_option maxRecDepth 20000 in
theorem gX8_matched_X8_gather : GoodIn wsX8_matched (wsV RX8 37 RX8 yX8_gather wsX8_gather) := goodIn_app (goodIn_of _ (by decide +kernel)) ggX8_matched_X8_gather
set_option maxRecDepth 20000 in
theorem ggX8_matched_X7_checkSign : GoodIn wsX8_matched wsX7_checkSign := goodIn_r _ [269, 270, 232, 239, 240, 241, 187, 242, 189, 243, 33, 34, 35, 244, 245, 211, 226, 216, 246, 247, 248, 249, 250, 199, 200, 201, 202, 221, 185, 186, 188, 251, 252, 253, 254, 255, 256, 257, 258, 259, 260, 261, 262, 263, 264, 265, 235, 236, 237, 238, 217, 218, 219, 220, 271, 208, 209, 210, 212, 213, 214, 215, 222, 223, 224, 225, 272, 228, 229, 230, 231, 233, 234, 298, 299, 291, 292, 293, 294, 295, 296, 297] rfl (by decide +kernel)
set_option maxRecDepth 20000 in
theorem gX8_matched_X7_checkSign : GoodIn wsX8_matched (wsV RX8 49 RX7 yX7_checkSign wsX7_checkSign) := goodIn_app (goodIn_of _ (by decide +kernel)) ggX8_matched_X7_checkSign
set_option maxRecDepth 20000 in
theorem ggX8_matched_X8_copyBare : GoodIn wsX8_matched wsX8_copyBare := goodIn_r _ [276, 11, 12, 13, 14, 15, 16, 17, 18, 19, 20, 21, 22, 23, 24, 25, 26, 27, 28, 29, 30, 31, 32, 33, 34, 35, 277, 278, 279, 280, 281, 282, 283, 284, 285, 286, 287, 288, 289, 290] rfl (by decide +kernel)
set_option maxRecDepth 20000 in
theorem gX8_matched_X8_copyBare : GoodIn wsX8_matched (wsV RX8 53 RX8 yX8_copyBare wsX8_copyBare) := goodIn_app (goodIn_of _ (by decide +kernel)) ggX8_matched_X8_copyBare
set_option maxRecDepth 20000 in
theorem ggX8_copyWhole_X6_keep : GoodIn wsX8_copyWhole wsX6_keep := goodIn_r _ [7, 8, 39, 40] rfl (by decide +kernel)
set_option maxRecDepth 20000 in
theorem gX8_copyWhole_X6_keep : GoodIn wsX8_copyWhole (wsV RX8 59 RX6 yX6_keep wsX6_keep) := goodIn_app (goodIn_of _ (by decide +kernel)) ggX8_copyWhole_X6_keep
set_option maxRecDepth 20000 in
theorem ggX8_copyWhole_X6_size : GoodIn wsX8_copyWhole wsX6_size := goodIn_r _ [12, 8, 39, 40] rfl (by decide +kernel)
set_option maxRecDepth 20000 in
theorem gX8_copyWhole_X6_size : GoodIn wsX8_copyWhole (wsV RX8 63 RX6 yX6_size wsX6_size) := goodIn_app (goodIn_of _ (by decide +kernel)) ggX8_copyWhole_X6_size
set_option maxRecDepth 20000 in
theorem ggX8_copyWhole_X6_at : GoodIn wsX8_copyWhole wsX6_at := goodIn_r _ [16, 8, 17, 39, 40] rfl (by decide +kernel)
set_option maxRecDepth 20000 in
theorem gX8_copyWhole_X6_at : GoodIn wsX8_copyWhole (wsV RX8 67 RX6 yX6_at wsX6_at) := goodIn_app (goodIn_of _ (by decide +kernel)) ggX8_copyWhole_X6_at
set_option maxRecDepth 20000 in
theorem ggX8_copyWhole_X6_put : GoodIn wsX8_copyWhole wsX6_put := goodIn_r _ [21, 8, 17, 22, 23, 24, 25, 26, 39, 40] rfl (by decide +kernel)
set_option maxRecDepth 20000 in
theorem gX8_copyWhole_X6_put : GoodIn wsX8_copyWhole (wsV RX8 71 RX6 yX6_put wsX6_put) := goodIn_app (goodIn_of _ (by decide +kernel)) ggX8_copyWhole_X6_put
set_option maxRecDepth 20000 in
theorem ggX8_copyBare_X6_keep : GoodIn wsX8_copyBare wsX6_keep := goodIn_r _ [6, 7, 38, 39] rfl (by decide +kernel)
set_option maxRecDepth 20000 in
theorem gX8_copyBare_X6_keep : GoodIn wsX8_copyBare (wsV RX8 59 RX6 yX6_keep wsX6_keep) := goodIn_app (goodIn_of _ (by decide +kernel)) ggX8_copyBare_X6_keep
set_option maxRecDepth 20000 in
theorem ggX8_copyBare_X6_size : GoodIn wsX8_copyBare wsX6_size := goodIn_r _ [11, 7, 38, 39] rfl (by decide +kernel)
set_option maxRecDepth 20000 in
theorem gX8_copyBare_X6_size : GoodIn wsX8_copyBare (wsV RX8 63 RX6 yX6_size wsX6_size) := goodIn_app (goodIn_of _ (by decide +kernel)) ggX8_copyBare_X6_size
set_option maxRecDepth 20000 in
theorem ggX8_copyBare_X6_at : GoodIn wsX8_copyBare wsX6_at := goodIn_r _ [15, 7, 16, 38, 39] rfl (by decide +kernel)
set_option maxRecDepth 20000 in
theorem gX8_copyBare_X6_at : GoodIn wsX8_copyBare (wsV RX8 67 RX6 yX6_at wsX6_at) := goodIn_app (goodIn_of _ (by decide +kernel)) ggX8_copyBare_X6_at
set_option maxRecDepth 20000 in
theorem ggX8_copyBare_X6_put : GoodIn wsX8_copyBare wsX6_put := goodIn_r _ [20, 7, 16, 21, 22, 23, 24, 25, 38, 39] rfl (by decide +kernel)
set_option maxRecDepth 20000 in
theorem gX8_copyBare_X6_put : GoodIn wsX8_copyBare (wsV RX8 71 RX6 yX6_put wsX6_put) := goodIn_app (goodIn_of _ (by decide +kernel)) ggX8_copyBare_X6_put
set_option maxRecDepth 20000 in
theorem ggX8_parse_X6_is : GoodIn wsX8_parse wsX6_is := goodIn_r _ [11, 12, 13, 14, 15, 16, 17, 18, 19, 20, 21, 22, 23, 24, 25, 26, 27, 10, 28, 29, 30, 31, 32, 33, 34, 35, 36, 37, 38, 39, 40, 41, 42, 43, 44, 45, 46, 47, 48, 49, 50, 51, 52, 53, 54, 55, 56, 57, 58, 59, 60, 61, 62, 63, 64, 65, 66, 166, 167] rfl (by decide +kernel)
set_option maxRecDepth 20000 in
theorem gX8_parse_X6_is : GoodIn wsX8_parse (wsV RX8 80 RX6 yX6_is wsX6_is) := goodIn_app (goodIn_of _ (by decide +kernel)) ggX8_parse_X6_is
set_option maxRecDepth 20000 in
theorem ggX8_parse_X6_at : GoodIn wsX8_parse wsX6_at := goodIn_r _ [70, 12, 29, 166, 167] rfl (by decide +kernel)
set_option maxRecDepth 20000 in
theorem gX8_parse_X6_at : GoodIn wsX8_parse (wsV RX8 67 RX6 yX6_at wsX6_at) := goodIn_app (goodIn_of _ (by decide +kernel)) ggX8_parse_X6_at
set_option maxRecDepth 20000 in
theorem ggX8_parse_X11_kindOf : GoodIn wsX8_parse wsX11_kindOf := goodIn_r _ [73, 74, 75, 76, 16, 77, 78, 79, 80, 81, 18, 34, 35, 36, 37, 23, 24, 82, 14, 15, 17, 19, 20, 21, 22, 83, 84, 40, 85, 86, 87, 88, 89, 90, 91, 92, 93, 94, 95, 96, 97, 98, 99, 100, 52, 101, 102, 103, 104, 105, 106, 107, 108, 109, 110, 57, 58, 59, 111, 112, 113, 45, 114, 115, 48, 116, 117, 118, 119, 61, 62, 63, 64, 65, 66, 120, 121, 122, 123, 124, 125, 126, 127, 128, 129, 130, 131, 132, 133, 134] rfl (by decide +kernel)
set_option maxRecDepth 20000 in
theorem gX8_parse_X11_kindOf_n89 : GoodIn wsX8_parse (wsX11_kindOf) := ggX8_parse_X11_kindOf
set_option maxRecDepth 20000 in
theorem ggX8_parse_X6_size : GoodIn wsX8_parse wsX6_size := goodIn_r _ [138, 12, 166, 167] rfl (by decide +kernel)
set_option maxRecDepth 20000 in
theorem gX8_parse_X6_size : GoodIn wsX8_parse (wsV RX8 63 RX6 yX6_size wsX6_size) := goodIn_app (goodIn_of _ (by decide +kernel)) ggX8_parse_X6_size
set_option maxRecDepth 20000 in
theorem ggX8_parse_X11_squareOf : GoodIn wsX8_parse wsX11_squareOf := goodIn_r _ [140, 141, 142, 72, 143, 144, 145, 146] rfl (by decide +kernel)
set_option maxRecDepth 20000 in
theorem gX8_parse_X11_squareOf_n96 : GoodIn wsX8_parse (wsX11_squareOf) := ggX8_parse_X11_squareOf
set_option maxRecDepth 20000 in
theorem ggX8_parse_X8_parseApart : GoodIn wsX8_parse wsX8_parseApart := goodIn_r _ [151, 152, 153, 2, 4, 67, 68, 69, 10, 70, 12, 29, 142, 72, 143, 145, 146, 154, 155, 156, 157, 158, 159, 160, 161, 162, 163, 164, 165, 166, 167] rfl (by decide +kernel)
set_option maxRecDepth 20000 in
theorem gX8_parse_X8_parseApart : GoodIn wsX8_parse (wsV RX8 103 RX8 yX8_parseApart wsX8_parseApart) := goodIn_app (goodIn_of _ (by decide +kernel)) ggX8_parse_X8_parseApart
set_option maxRecDepth 20000 in
theorem ggX8_parseApart_X6_at : GoodIn wsX8_parseApart wsX6_at := goodIn_r _ [9, 10, 11, 29, 30] rfl (by decide +kernel)
set_option maxRecDepth 20000 in
theorem gX8_parseApart_X6_at : GoodIn wsX8_parseApart (wsV RX8 67 RX6 yX6_at wsX6_at) := goodIn_app (goodIn_of _ (by decide +kernel)) ggX8_parseApart_X6_at
set_option maxRecDepth 20000 in
theorem ggX8_parseApart_X11_isFile : GoodIn wsX8_parseApart wsX11_isFile := goodIn_r _ [14] rfl (by decide +kernel)
set_option maxRecDepth 20000 in
theorem gX8_parseApart_X11_isFile_n113 : GoodIn wsX8_parseApart (wsX11_isFile) := ggX8_parseApart_X11_isFile
set_option maxRecDepth 20000 in
theorem ggX8_parseApart_X11_isRank : GoodIn wsX8_parseApart wsX11_isRank := goodIn_r _ [16] rfl (by decide +kernel)
set_option maxRecDepth 20000 in
theorem gX8_parseApart_X11_isRank_n117 : GoodIn wsX8_parseApart (wsX11_isRank) := ggX8_parseApart_X11_isRank
set_option maxRecDepth 20000 in
theorem ggX8_gather_X0_castles : GoodIn wsX8_gather wsX0_castles := goodIn_r _ [12, 13, 110, 111, 112, 113, 114, 115, 116] rfl (by decide +kernel)
set_option maxRecDepth 20000 in
theorem gX8_gather_X0_castles : GoodIn wsX8_gather (wsV RX8 125 RX0 yX0_castles wsX0_castles) := goodIn_app (goodIn_of _ (by decide +kernel)) ggX8_gather_X0_castles
set_option maxRecDepth 20000 in
theorem ggX8_gather_X8_fitsFrom : GoodIn wsX8_gather wsX8_fitsFrom := goodIn_r _ [18, 19, 20, 2, 4, 21, 22, 23, 5, 8, 9, 10, 11, 12, 13, 24, 25, 26, 27, 28, 29, 30, 31, 32, 33, 34, 35, 110, 111, 112, 113, 114, 115, 116, 98, 99, 100, 101, 102, 103, 104, 105, 106, 107, 108, 109] rfl (by decide +kernel)
set_option maxRecDepth 20000 in
theorem gX8_gather_X8_fitsFrom : GoodIn wsX8_gather (wsV RX8 128 RX8 yX8_fitsFrom wsX8_fitsFrom) := goodIn_app (goodIn_of _ (by decide +kernel)) ggX8_gather_X8_fitsFrom
set_option maxRecDepth 20000 in
theorem ggX8_gather_X0_reaches : GoodIn wsX8_gather wsX0_reaches := goodIn_r _ [39, 13, 40, 28, 29, 30, 11, 31, 41, 42, 43, 44, 45, 46, 47, 48, 49, 50, 9, 10, 12, 51, 52, 53, 54, 55, 110, 111, 112, 113, 114, 115, 116] rfl (by decide +kernel)
set_option maxRecDepth 20000 in
theorem gX8_gather_X0_reaches : GoodIn wsX8_gather (wsV RX8 132 RX0 yX0_reaches wsX0_reaches) := goodIn_app (goodIn_of _ (by decide +kernel)) ggX8_gather_X0_reaches
set_option maxRecDepth 20000 in
theorem ggX8_gather_X7_isSafe : GoodIn wsX8_gather wsX7_isSafe := goodIn_r _ [60, 61, 62, 63, 9, 10, 11, 12, 13, 64, 65, 66, 67, 46, 47, 48, 49, 68, 69, 70, 71, 72, 73, 74, 75, 76, 77, 40, 55, 45, 78, 79, 80, 81, 82, 28, 29, 30, 31, 50, 83, 84, 85, 86, 87, 88, 89, 90, 91, 92, 93, 94, 95, 96, 97, 110, 111, 112, 113, 114, 115, 116, 117, 118] rfl (by decide +kernel)
set_option maxRecDepth 20000 in
theorem gX8_gather_X7_isSafe : GoodIn wsX8_gather (wsV RX8 135 RX7 yX7_isSafe wsX7_isSafe) := goodIn_app (goodIn_of _ (by decide +kernel)) ggX8_gather_X7_isSafe
set_option maxRecDepth 20000 in
theorem ggX8_fitsFrom_X0_castles : GoodIn wsX8_fitsFrom wsX0_castles := goodIn_r _ [13, 14, 27, 28, 29, 30, 31, 32, 33] rfl (by decide +kernel)
set_option maxRecDepth 20000 in
theorem gX8_fitsFrom_X0_castles : GoodIn wsX8_fitsFrom (wsV RX8 125 RX0 yX0_castles wsX0_castles) := goodIn_app (goodIn_of _ (by decide +kernel)) ggX8_fitsFrom_X0_castles
set_option maxRecDepth 20000 in
theorem ggX8_fitsFrom_X0_takes : GoodIn wsX8_fitsFrom wsX0_takes := goodIn_r _ [18, 14, 19, 20, 21, 12, 22, 27, 28, 29, 30, 31, 32, 33] rfl (by decide +kernel)
set_option maxRecDepth 20000 in
theorem gX8_fitsFrom_X0_takes : GoodIn wsX8_fitsFrom (wsV RX8 141 RX0 yX0_takes wsX0_takes) := goodIn_app (goodIn_of _ (by decide +kernel)) ggX8_fitsFrom_X0_takes
set_option maxRecDepth 20000 in
theorem ggX8_fitsFrom_X0_becomesAnother : GoodIn wsX8_fitsFrom wsX0_becomesAnother := goodIn_r _ [26, 19, 20, 21, 12, 22, 14, 27, 28, 29, 30, 31, 32, 33] rfl (by decide +kernel)
set_option maxRecDepth 20000 in
theorem gX8_fitsFrom_X0_becomesAnother : GoodIn wsX8_fitsFrom (wsV RX8 144 RX0 yX0_becomesAnother wsX0_becomesAnother) := goodIn_app (goodIn_of _ (by decide +kernel)) ggX8_fitsFrom_X0_becomesAnother
