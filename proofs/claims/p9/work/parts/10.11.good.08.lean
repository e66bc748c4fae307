set_option maxRecDepth 20000 in
theorem ggX8_init_X7_init : GoodIn wsX8_init wsX7_init := goodIn_r2 cbX8_init_f _ [(1, 14), (1, 15), (1, 1), (1, 2), (1, 16), (1, 17), (1, 18), (1, 19), (1, 20), (1, 21), (1, 22), (1, 23), (1, 11), (2, 0), (2, 1), (2, 2), (2, 3), (2, 4), (2, 5), (2, 6), (6, 0), (6, 1), (6, 2), (6, 3), (6, 4), (6, 5), (6, 6), (3, 0), (3, 1)] rfl (by decide +kernel)
set_option maxRecDepth 20000 in
theorem gX8_init_X7_init_n11 : GoodIn wsX8_init (wsX7_init) := ggX8_init_X7_init
set_option maxRecDepth 20000 in
theorem ggX8_init_X6_init : GoodIn wsX8_init wsX6_init := goodIn_r2 cbX8_init_f _ [(2, 8), (2, 9), (1, 1), (1, 2), (2, 10), (2, 11), (2, 12), (5, 0), (5, 1)] rfl (by decide +kernel)
set_option maxRecDepth 20000 in
theorem gX8_init_X6_init_n20 : GoodIn wsX8_init (wsX6_init) := ggX8_init_X6_init
set_option maxRecDepth 20000 in
theorem ggX8_matched_X8_copyWhole : GoodIn wsX8_matched wsX8_copyWhole := goodIn_r2 cbX8_matched_f _ [(1, 9), (1, 10), (1, 1), (1, 11), (1, 12), (1, 13), (1, 14), (1, 15), (1, 16), (1, 17), (1, 18), (1, 19), (1, 20), (1, 21), (1, 22), (1, 23), (2, 0), (2, 1), (2, 2), (2, 3), (2, 4), (2, 5), (2, 6), (2, 7), (2, 8), (2, 9), (2, 10), (13, 0), (13, 1), (13, 2), (13, 3), (13, 4), (13, 5), (13, 6), (13, 7), (13, 8), (13, 9), (13, 10), (13, 11), (14, 0), (14, 1)] rfl (by decide +kernel)
set_option maxRecDepth 20000 in
theorem gX8_matched_X8_copyWhole : GoodIn wsX8_matched (wsV RX8 29 RX8 yX8_copyWhole wsX8_copyWhole) := goodIn_app (goodIn_of _ (by decide +kernel)) ggX8_matched_X8_copyWhole
set_option maxRecDepth 20000 in
theorem ggX8_matched_X8_parse : GoodIn wsX8_matched wsX8_parse := goodIn_r2 cbX8_matched_f _ [(2, 14), (2, 15), (1, 10), (2, 16), (2, 17), (2, 18), (1, 4), (2, 19), (2, 20), (2, 21), (1, 14), (2, 22), (1, 16), (2, 23), (3, 0), (3, 1), (3, 2), (3, 3), (3, 4), (3, 5), (3, 6), (3, 7), (3, 8), (3, 9), (3, 10), (3, 11), (3, 12), (3, 13), (3, 14), (2, 1), (3, 15), (3, 16), (3, 17), (3, 18), (3, 19), (3, 20), (3, 21), (3, 22), (3, 23), (4, 0), (4, 1), (4, 2), (4, 3), (4, 4), (4, 5), (4, 6), (4, 7), (4, 8), (4, 9), (4, 10), (4, 11), (4, 12), (4, 13), (4, 14), (4, 15), (4, 16), (4, 17), (4, 18), (4, 19), (4, 20), (4, 21), (4, 22), (4, 23), (5, 0), (5, 1), (5, 2), (5, 3), (1, 21), (1, 22), (1, 23), (2, 0), (5, 4), (5, 5), (5, 6), (5, 7), (5, 8), (5, 9), (5, 10), (5, 11), (5, 12), (5, 13), (5, 14), (5, 15), (5, 16), (5, 17), (5, 18), (5, 19), (5, 20), (5, 21), (5, 22), (5, 23), (6, 0), (6, 1), (6, 2), (6, 3), (6, 4), (6, 5), (6, 6), (6, 7), (6, 8), (6, 9), (6, 10), (6, 11), (6, 12), (6, 13), (6, 14), (6, 15), (6, 16), (6, 17), (6, 18), (6, 19), (6, 20), (6, 21), (6, 22), (6, 23), (7, 0), (7, 1), (7, 2), (7, 3), (7, 4), (7, 5), (7, 6), (7, 7), (7, 8), (7, 9), (7, 10), (7, 11), (7, 12), (7, 13), (7, 14), (7, 15), (7, 16), (7, 17), (7, 18), (7, 19), (1, 17), (1, 18), (1, 19), (1, 20), (7, 20), (7, 21), (7, 22), (7, 23), (8, 0), (8, 1), (8, 2), (8, 3), (8, 4), (8, 5), (8, 6), (1, 8), (8, 7), (8, 8), (8, 9), (13, 0), (13, 1), (13, 2), (13, 3), (13, 4), (13, 5), (13, 6), (13, 7), (13, 8), (13, 9), (13, 10), (13, 11), (14, 0), (14, 1)] rfl (by decide +kernel)
set_option maxRecDepth 20000 in
theorem gX8_matched_X8_parse : GoodIn wsX8_matched (wsV RX8 33 RX8 yX8_parse wsX8_parse) := goodIn_app (goodIn_of _ (by decide +kernel)) ggX8_matched_X8_parse
set_option maxRecDepth 20000 in
theorem ggX8_matched_X8_gather : GoodIn wsX8_matched wsX8_gather := goodIn_r2 cbX8_matched_f _ [(8, 13), (1, 0), (8, 14), (2, 16), (2, 18), (2, 15), (1, 2), (1, 3), (8, 15), (8, 16), (8, 17), (8, 18), (8, 19), (8, 20), (8, 21), (8, 22), (8, 23), (1, 8), (9, 0), (9, 1), (2, 17), (8, 8), (8, 9), (1, 4), (9, 2), (9, 3), (9, 4), (9, 5), (9, 6), (9, 7), (9, 8), (9, 9), (9, 10), (9, 11), (9, 12), (9, 13), (9, 14), (9, 15), (9, 16), (9, 17), (9, 18), (9, 19), (9, 20), (9, 21), (9, 22), (9, 23), (10, 0), (10, 1), (10, 2), (10, 3), (10, 4), (10, 5), (10, 6), (10, 7), (10, 8), (10, 9), (10, 10), (10, 11), (10, 12), (10, 13), (10, 14), (10, 15), (10, 16), (10, 17), (10, 18), (10, 19), (10, 20), (10, 21), (10, 22), (10, 23), (11, 0), (11, 1), (11, 2), (2, 8), (2, 9), (2, 10), (11, 3), (11, 4), (11, 5), (11, 6), (11, 7), (11, 8), (11, 9), (11, 10), (11, 11), (11, 12), (11, 13), (11, 14), (11, 15), (11, 16), (11, 17), (11, 18), (11, 19), (11, 20), (11, 21), (11, 22), (11, 23), (12, 0), (13, 0), (13, 1), (13, 2), (13, 3), (13, 4), (13, 5), (13, 6), (13, 7), (13, 8), (13, 9), (13, 10), (13, 11), (15, 0), (15, 1), (15, 2), (15, 3), (15, 4), (15, 5), (15, 6), (16, 0), (16, 1)] rfl (by decide +kernel)
set_option maxRecDepth 20000 in
theorem gX8_matched_X8_gather : GoodIn wsX8_matched (wsV RX8 37 RX8 yX8_gather wsX8_gather) := goodIn_app (goodIn_of _ (by decide +kernel)) ggX8_matched_X8_gather
set_option maxRecDepth 20000 in
theorem ggX8_matched_X7_checkSign : GoodIn wsX8_matched wsX7_checkSign := goodIn_r2 cbX8_matched_f _ [(12, 4), (12, 5), (10, 15), (10, 22), (10, 23), (11, 0), (8, 18), (11, 1), (8, 20), (11, 2), (2, 8), (2, 9), (2, 10), (11, 3), (11, 4), (9, 18), (10, 9), (9, 23), (11, 5), (11, 6), (11, 7), (11, 8), (11, 9), (9, 6), (9, 7), (9, 8), (9, 9), (10, 4), (8, 16), (8, 17), (8, 19), (11, 10), (11, 11), (11, 12), (11, 13), (11, 14), (11, 15), (11, 16), (11, 17), (11, 18), (11, 19), (11, 20), (11, 21), (11, 22), (11, 23), (12, 0), (10, 18), (10, 19), (10, 20), (10, 21), (10, 0), (10, 1), (10, 2), (10, 3), (12, 6), (9, 15), (9, 16), (9, 17), (9, 19), (9, 20), (9, 21), (9, 22), (10, 5), (10, 6), (10, 7), (10, 8), (12, 7), (10, 11), (10, 12), (10, 13), (10, 14), (10, 16), (10, 17), (16, 0), (16, 1), (15, 0), (15, 1), (15, 2), (15, 3), (15, 4), (15, 5), (15, 6)] rfl (by decide +kernel)
set_option maxRecDepth 20000 in
theorem gX8_matched_X7_checkSign : GoodIn wsX8_matched (wsV RX8 49 RX7 yX7_checkSign wsX7_checkSign) := goodIn_app (goodIn_of _ (by decide +kernel)) ggX8_matched_X7_checkSign
set_option maxRecDepth 20000 in
theorem ggX8_matched_X8_copyBare : GoodIn wsX8_matched wsX8_copyBare := goodIn_r2 cbX8_matched_f _ [(12, 11), (1, 10), (1, 11), (1, 12), (1, 13), (1, 14), (1, 15), (1, 16), (1, 17), (1, 18), (1, 19), (1, 20), (1, 21), (1, 22), (1, 23), (2, 0), (2, 1), (2, 2), (2, 3), (2, 4), (2, 5), (2, 6), (2, 7), (2, 8), (2, 9), (2, 10), (13, 0), (13, 1), (13, 2), (13, 3), (13, 4), (13, 5), (13, 6), (13, 7), (13, 8), (13, 9), (13, 10), (13, 11), (14, 0), (14, 1)] rfl (by decide +kernel)
set_option maxRecDepth 20000 in
theorem gX8_matched_X8_copyBare : GoodIn wsX8_matched (wsV RX8 53 RX8 yX8_copyBare wsX8_copyBare) := goodIn_app (goodIn_of _ (by decide +kernel)) ggX8_matched_X8_copyBare
set_option maxRecDepth 20000 in
theorem ggX8_copyWhole_X6_keep : GoodIn wsX8_copyWhole wsX6_keep := goodIn_r2 cbX8_copyWhole_f _ [(1, 6), (1, 7), (4, 0), (4, 1)] rfl (by decide +kernel)
set_option maxRecDepth 20000 in
theorem gX8_copyWhole_X6_keep : GoodIn wsX8_copyWhole (wsV RX8 59 RX6 yX6_keep wsX6_keep) := goodIn_app (goodIn_of _ (by decide +kernel)) ggX8_copyWhole_X6_keep
set_option maxRecDepth 20000 in
theorem ggX8_copyWhole_X6_size : GoodIn wsX8_copyWhole wsX6_size := goodIn_r2 cbX8_copyWhole_f _ [(1, 11), (1, 7), (4, 0), (4, 1)] rfl (by decide +kernel)
set_option maxRecDepth 20000 in
theorem gX8_copyWhole_X6_size : GoodIn wsX8_copyWhole (wsV RX8 63 RX6 yX6_size wsX6_size) := goodIn_app (goodIn_of _ (by decide +kernel)) ggX8_copyWhole_X6_size
set_option maxRecDepth 20000 in
theorem ggX8_copyWhole_X6_at : GoodIn wsX8_copyWhole wsX6_at := goodIn_r2 cbX8_copyWhole_f _ [(1, 15), (1, 7), (1, 16), (4, 0), (4, 1)] rfl (by decide +kernel)
set_option maxRecDepth 20000 in
theorem gX8_copyWhole_X6_at : GoodIn wsX8_copyWhole (wsV RX8 67 RX6 yX6_at wsX6_at) := goodIn_app (goodIn_of _ (by decide +kernel)) ggX8_copyWhole_X6_at
set_option maxRecDepth 20000 in
theorem ggX8_copyWhole_X6_put : GoodIn wsX8_copyWhole wsX6_put := goodIn_r2 cbX8_copyWhole_f _ [(1, 20), (1, 7), (1, 16), (1, 21), (1, 22), (1, 23), (2, 0), (2, 1), (4, 0), (4, 1)] rfl (by decide +kernel)
set_option maxRecDepth 20000 in
theorem gX8_copyWhole_X6_put : GoodIn wsX8_copyWhole (wsV RX8 71 RX6 yX6_put wsX6_put) := goodIn_app (goodIn_of _ (by decide +kernel)) ggX8_copyWhole_X6_put
set_option maxRecDepth 20000 in
theorem ggX8_copyBare_X6_keep : GoodIn wsX8_copyBare wsX6_keep := goodIn_r _ [6, 7, 38, 39] rfl (by decide +kernel)
set_option maxRecDepth 20000 in
theorem gX8_copyBare_X6_keep : GoodIn wsX8_copyBare (wsV RX8 59 RX6 yX6_keep wsX6_keep) := goodIn_app (goodIn_of _ (by decide +kernel)) ggX8_copyBare_X6_keep
set_option maxRecDepth 20000 in
theorem ggX8_copyBare_X6_size : GoodIn wsX8_copyBare wsX6_size := goodIn_r _ [11, 7, 38, 39] rfl (by decide +kernel)
set_option maxRecDepth 20000 in
theorem gX8_copyBare_X6_size : GoodIn wsX8_copyBare (wsV RX8 63 RX6 yX6_size wsX6_size) := goodIn_app (goodIn_of _ (by decide +kernel)) ggX8_copyBare_X6_size
set_option maxRecDepth 20000 in
theorem ggX8_copyBare_X6_at : GoodIn wsX8_copyBare wsX6_at := goodIn_r _ [15, 7, 16, 38, 39] rfl (by decide +kernel)
set_option maxRecDepth 20000 in
theorem gX8_copyBare_X6_at : GoodIn wsX8_copyBare (wsV RX8 67 RX6 yX6_at wsX6_at) := goodIn_app (goodIn_of _ (by decide +kernel)) ggX8_copyBare_X6_at
set_option maxRecDepth 20000 in
theorem ggX8_copyBare_X6_put : GoodIn wsX8_copyBare wsX6_put := goodIn_r _ [20, 7, 16, 21, 22, 23, 24, 25, 38, 39] rfl (by decide +kernel)
set_option maxRecDepth 20000 in
theorem gX8_copyBare_X6_put : GoodIn wsX8_copyBare (wsV RX8 71 RX6 yX6_put wsX6_put) := goodIn_app (goodIn_of _ (by decide +kernel)) ggX8_copyBare_X6_put
set_option maxRecDepth 20000 in
theorem ggX8_parse_X6_is : GoodIn wsX8_parse wsX6_is := goodIn_r2 cbX8_parse_f _ [(1, 10), (1, 11), (1, 12), (1, 13), (1, 14), (1, 15), (1, 16), (1, 17), (1, 18), (1, 19), (1, 20), (1, 21), (1, 22), (1, 23), (2, 0), (2, 1), (2, 2), (1, 9), (2, 3), (2, 4), (2, 5), (2, 6), (2, 7), (2, 8), (2, 9), (2, 10), (2, 11), (2, 12), (2, 13), (2, 14), (2, 15), (2, 16), (2, 17), (2, 18), (2, 19), (2, 20), (2, 21), (2, 22), (2, 23), (3, 0), (3, 1), (3, 2), (3, 3), (3, 4), (3, 5), (3, 6), (3, 7), (3, 8), (3, 9), (3, 10), (3, 11), (3, 12), (3, 13), (3, 14), (3, 15), (3, 16), (3, 17), (9, 0), (9, 1)] rfl (by decide +kernel)
set_option maxRecDepth 20000 in
theorem gX8_parse_X6_is : GoodIn wsX8_parse (wsV RX8 80 RX6 yX6_is wsX6_is) := goodIn_app (goodIn_of _ (by decide +kernel)) ggX8_parse_X6_is
set_option maxRecDepth 20000 in
theorem ggX8_parse_X6_at : GoodIn wsX8_parse wsX6_at := goodIn_r2 cbX8_parse_f _ [(3, 21), (1, 11), (2, 4), (9, 0), (9, 1)] rfl (by decide +kernel)
set_option maxRecDepth 20000 in
theorem gX8_parse_X6_at : GoodIn wsX8_parse (wsV RX8 67 RX6 yX6_at wsX6_at) := goodIn_app (goodIn_of _ (by decide +kernel)) ggX8_parse_X6_at
set_option maxRecDepth 20000 in
theorem ggX8_parse_X11_kindOf : GoodIn wsX8_parse wsX11_kindOf := goodIn_r2 cbX8_parse_f _ [(4, 0), (4, 1), (4, 2), (4, 3), (1, 15), (4, 4), (4, 5), (4, 6), (4, 7), (4, 8), (1, 17), (2, 9), (2, 10), (2, 11), (2, 12), (1, 22), (1, 23), (4, 9), (1, 13), (1, 14), (1, 16), (1, 18), (1, 19), (1, 20), (1, 21), (4, 10), (4, 11), (2, 15), (4, 12), (4, 13), (4, 14), (4, 15), (4, 16), (4, 17), (4, 18), (4, 19), (4, 20), (4, 21), (4, 22), (4, 23), (5, 0), (5, 1), (5, 2), (5, 3), (3, 3), (5, 4), (5, 5), (5, 6), (5, 7), (5, 8), (5, 9), (5, 10), (5, 11), (5, 12), (5, 13), (3, 8), (3, 9), (3, 10), (5, 14), (5, 15), (5, 16), (2, 20), (5, 17), (5, 18), (2, 23), (5, 19), (5, 20), (5, 21), (5, 22), (3, 12), (3, 13), (3, 14), (3, 15), (3, 16), (3, 17), (5, 23), (6, 0), (6, 1), (6, 2), (6, 3), (6, 4), (6, 5), (6, 6), (6, 7), (6, 8), (6, 9), (6, 10), (6, 11), (6, 12), (6, 13)] rfl (by decide +kernel)
set_option maxRecDepth 20000 in
theorem gX8_parse_X11_kindOf_n89 : GoodIn wsX8_parse (wsX11_kindOf) := ggX8_parse_X11_kindOf
set_option maxRecDepth 20000 in
theorem ggX8_parse_X6_size : GoodIn wsX8_parse wsX6_size := goodIn_r2 cbX8_parse_f _ [(6, 17), (1, 11), (9, 0), (9, 1)] rfl (by decide +kernel)
set_option maxRecDepth 20000 in
theorem gX8_parse_X6_size : GoodIn wsX8_parse (wsV RX8 63 RX6 yX6_size wsX6_size) := goodIn_app (goodIn_of _ (by decide +kernel)) ggX8_parse_X6_size
set_option maxRecDepth 20000 in
theorem ggX8_parse_X11_squareOf : GoodIn wsX8_parse wsX11_squareOf := goodIn_r2 cbX8_parse_f _ [(6, 19), (6, 20), (6, 21), (3, 23), (6, 22), (6, 23), (7, 0), (7, 1)] rfl (by decide +kernel)
set_option maxRecDepth 20000 in
theorem gX8_parse_X11_squareOf_n96 : GoodIn wsX8_parse (wsX11_squareOf) := ggX8_parse_X11_squareOf
set_option maxRecDepth 20000 in
theorem ggX8_parse_X8_parseApart : GoodIn wsX8_parse wsX8_parseApart := goodIn_r2 cbX8_parse_f _ [(7, 6), (7, 7), (7, 8), (1, 1), (1, 3), (3, 18), (3, 19), (3, 20), (1, 9), (3, 21), (1, 11), (2, 4), (6, 21), (3, 23), (6, 22), (7, 0), (7, 1), (8, 0), (8, 1), (8, 2), (8, 3), (8, 4), (8, 5), (8, 6), (8, 7), (8, 8), (8, 9), (8, 10), (8, 11), (9, 0), (9, 1)] rfl (by decide +kernel)
set_option maxRecDepth 20000 in
theorem gX8_parse_X8_parseApart : GoodIn wsX8_parse (wsV RX8 103 RX8 yX8_parseApart wsX8_parseApart) := goodIn_app (goodIn_of _ (by decide +kernel)) ggX8_parse_X8_parseApart
set_option maxRecDepth 20000 in
theorem ggX8_parseApart_X6_at : GoodIn wsX8_parseApart wsX6_at := goodIn_r _ [9, 10, 11, 29, 30] rfl (by decide +kernel)
set_option maxRecDepth 20000 in
theorem gX8_parseApart_X6_at : GoodIn wsX8_parseApart (wsV RX8 67 RX6 yX6_at wsX6_at) := goodIn_app (goodIn_of _ (by decide +kernel)) ggX8_parseApart_X6_at
set_option maxRecDepth 20000 in
theorem ggX8_parseApart_X11_isFile : GoodIn wsX8_parseApart wsX11_isFile := goodIn_r _ [14] rfl (by decide +kernel)
set_option maxRecDepth 20000 in
theorem gX8_parseApart_X11_isFile_n113 : GoodIn wsX8_parseApart (wsX11_isFile) := ggX8_parseApart_X11_isFile
set_option maxRecDepth 20000 in
theorem ggX8_parseApart_X11_isRank : GoodIn wsX8_parseApart wsX11_isRank := goodIn_r _ [16] rfl (by decide +kernel)
set_option maxRecDepth 20000 in
theorem gX8_parseApart_X11_isRank_n117 : GoodIn wsX8_parseApart (wsX11_isRank) := ggX8_parseApart_X11_isRank
set_option maxRecDepth 20000 in
theorem ggX8_gather_X0_castles : GoodIn wsX8_gather wsX0_castles := goodIn_r2 cbX8_gather_f _ [(1, 11), (1, 12), (7, 0), (7, 1), (7, 2), (7, 3), (7, 4), (7, 5), (7, 6)] rfl (by decide +kernel)
set_option maxRecDepth 20000 in
theorem gX8_gather_X0_castles : GoodIn wsX8_gather (wsV RX8 125 RX0 yX0_castles wsX0_castles) := goodIn_app (goodIn_of _ (by decide +kernel)) ggX8_gather_X0_castles
set_option maxRecDepth 20000 in
theorem ggX8_gather_X8_fitsFrom : GoodIn wsX8_gather wsX8_fitsFrom := goodIn_r2 cbX8_gather_f _ [(1, 17), (1, 18), (1, 19), (1, 1), (1, 3), (1, 20), (1, 21), (1, 22), (1, 4), (1, 7), (1, 8), (1, 9), (1, 10), (1, 11), (1, 12), (1, 23), (2, 0), (2, 1), (2, 2), (2, 3), (2, 4), (2, 5), (2, 6), (2, 7), (2, 8), (2, 9), (2, 10), (7, 0), (7, 1), (7, 2), (7, 3), (7, 4), (7, 5), (7, 6), (6, 0), (6, 1), (6, 2), (6, 3), (6, 4), (6, 5), (6, 6), (6, 7), (6, 8), (6, 9), (6, 10), (6, 11)] rfl (by decide +kernel)
set_option maxRecDepth 20000 in
theorem gX8_gather_X8_fitsFrom : GoodIn wsX8_gather (wsV RX8 128 RX8 yX8_fitsFrom wsX8_fitsFrom) := goodIn_app (goodIn_of _ (by decide +kernel)) ggX8_gather_X8_fitsFrom
set_option maxRecDepth 20000 in
theorem ggX8_gather_X0_reaches : GoodIn wsX8_gather wsX0_reaches := goodIn_r2 cbX8_gather_f _ [(2, 14), (1, 12), (2, 15), (2, 3), (2, 4), (2, 5), (1, 10), (2, 6), (2, 16), (2, 17), (2, 18), (2, 19), (2, 20), (2, 21), (2, 22), (2, 23), (3, 0), (3, 1), (1, 8), (1, 9), (1, 11), (3, 2), (3, 3), (3, 4), (3, 5), (3, 6), (7, 0), (7, 1), (7, 2), (7, 3), (7, 4), (7, 5), (7, 6)] rfl (by decide +kernel)
set_option maxRecDepth 20000 in
theorem gX8_gather_X0_reaches : GoodIn wsX8_gather (wsV RX8 132 RX0 yX0_reaches wsX0_reaches) := goodIn_app (goodIn_of _ (by decide +kernel)) ggX8_gather_X0_reaches
set_option maxRecDepth 20000 in
theorem ggX8_gather_X7_isSafe : GoodIn wsX8_gather wsX7_isSafe := goodIn_r2 cbX8_gather_f _ [(3, 11), (3, 12), (3, 13), (3, 14), (1, 8), (1, 9), (1, 10), (1, 11), (1, 12), (3, 15), (3, 16), (3, 17), (3, 18), (2, 21), (2, 22), (2, 23), (3, 0), (3, 19), (3, 20), (3, 21), (3, 22), (3, 23), (4, 0), (4, 1), (4, 2), (4, 3), (4, 4), (2, 15), (3, 6), (2, 20), (4, 5), (4, 6), (4, 7), (4, 8), (4, 9), (2, 3), (2, 4), (2, 5), (2, 6), (3, 1), (4, 10), (4, 11), (4, 12), (4, 13), (4, 14), (4, 15), (4, 16), (4, 17), (4, 18), (4, 19), (4, 20), (4, 21), (4, 22), (4, 23), (5, 0), (7, 0), (7, 1), (7, 2), (7, 3), (7, 4), (7, 5), (7, 6), (8, 0), (8, 1)] rfl (by decide +kernel)
set_option maxRecDepth 20000 in
theorem gX8_gather_X7_isSafe : GoodIn wsX8_gather (wsV RX8 135 RX7 yX7_isSafe wsX7_isSafe) := goodIn_app (goodIn_of _ (by decide +kernel)) ggX8_gather_X7_isSafe
set_option maxRecDepth 20000 in
theorem ggX8_fitsFrom_X0_castles : GoodIn wsX8_fitsFrom wsX0_castles := goodIn_r _ [13, 14, 27, 28, 29, 30, 31, 32, 33] rfl (by decide +kernel)
set_option maxRecDepth 20000 in
theorem gX8_fitsFrom_X0_castles : GoodIn wsX8_fitsFrom (wsV RX8 125 RX0 yX0_castles wsX0_castles) := goodIn_app (goodIn_of _ (by decide +kernel)) ggX8_fitsFrom_X0_castles
set_option maxRecDepth 20000 in
theorem ggX8_fitsFrom_X0_takes : GoodIn wsX8_fitsFrom wsX0_takes := goodIn_r _ [18, 14, 19, 20, 21, 12, 22, 27, 28, 29, 30, 31, 32, 33] rfl (by decide +kernel)
set_option maxRecDepth 20000 in
theorem gX8_fitsFrom_X0_takes : GoodIn wsX8_fitsFrom (wsV RX8 141 RX0 yX0_takes wsX0_takes) := goodIn_app (goodIn_of _ (by decide +kernel)) ggX8_fitsFrom_X0_takes
set_option maxRecDepth 20000 in
theorem ggX8_fitsFrom_X0_becomesAnother : GoodIn wsX8_fitsFrom wsX0_becomesAnother := goodIn_r _ [26, 19, 20, 21, 12, 22, 14, 27, 28, 29, 30, 31, 32, 33] rfl (by decide +kernel)
set_option maxRecDepth 20000 in
theorem gX8_fitsFrom_X0_becomesAnother : GoodIn wsX8_fitsFrom (wsV RX8 144 RX0 yX0_becomesAnother wsX0_becomesAnother) := goodIn_app (goodIn_of _ (by decide +kernel)) ggX8_fitsFrom_X0_becomesAnother
