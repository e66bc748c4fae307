set_option maxRecDepth 20000 in
theorem ggX9_init_X7_init : GoodIn wsX9_init wsX7_init := goodIn_r _ [9, 10, 2, 3, 11, 12, 13, 14, 15, 16, 17, 18, 19, 20, 21, 22, 23, 24, 25, 26, 30, 31, 32, 33, 34, 35, 36, 27, 28] rfl (by decide +kernel)
set_option maxRecDepth 20000 in
theorem gX9_init_X7_init_n11 : GoodIn wsX9_init (wsX7_init) := ggX9_init_X7_init
set_option maxRecDepth 20000 in
theorem ggX9_putSigns_X0_castles : GoodIn wsX9_putSigns wsX0_castles := goodIn_r2 cbX9_putSigns_f _ [(1, 5), (1, 6), (9, 0), (9, 1), (9, 2), (9, 3), (9, 4), (9, 5), (9, 6)] rfl (by decide +kernel)
set_option maxRecDepth 20000 in
theorem gX9_putSigns_X0_castles : GoodIn wsX9_putSigns (wsV RX9 18 RX0 yX0_castles wsX0_castles) := goodIn_app (goodIn_of _ (by decide +kernel)) ggX9_putSigns_X0_castles
set_option maxRecDepth 20000 in
theorem ggX9_putSigns_X6_putText : GoodIn wsX9_putSigns wsX6_putText := goodIn_r2 cbX9_putSigns_f _ [(1, 11), (1, 12), (1, 13), (1, 14), (1, 15), (1, 16), (1, 17), (1, 18), (1, 19), (1, 20), (1, 21), (1, 22), (1, 23), (2, 0), (2, 1), (2, 2), (2, 3), (2, 4), (2, 5), (2, 6), (2, 7), (2, 8), (2, 9), (2, 10), (2, 11), (2, 12), (2, 13), (2, 14), (2, 15), (2, 16), (2, 17), (2, 18), (2, 19), (2, 20), (2, 21), (2, 22), (2, 23), (3, 0), (3, 1), (3, 2), (3, 3), (3, 4), (3, 5), (3, 6), (3, 7), (3, 8), (3, 9), (3, 10), (3, 11), (3, 12), (3, 13), (3, 14), (3, 15), (1, 10), (3, 16), (3, 17), (3, 18), (3, 19), (3, 20), (3, 21), (3, 22), (3, 23), (10, 0), (10, 1)] rfl (by decide +kernel)
set_option maxRecDepth 20000 in
theorem gX9_putSigns_X6_putText : GoodIn wsX9_putSigns (wsV RX9 28 RX6 yX6_putText wsX6_putText) := goodIn_app (goodIn_of _ (by decide +kernel)) ggX9_putSigns_X6_putText
set_option maxRecDepth 20000 in
theorem ggX9_putSigns_X0_takes : GoodIn wsX9_putSigns wsX0_takes := goodIn_r2 cbX9_putSigns_f _ [(4, 3), (1, 6), (4, 4), (4, 5), (4, 6), (1, 4), (4, 7), (9, 0), (9, 1), (9, 2), (9, 3), (9, 4), (9, 5), (9, 6)] rfl (by decide +kernel)
set_option maxRecDepth 20000 in
theorem gX9_putSigns_X0_takes : GoodIn wsX9_putSigns (wsV RX9 34 RX0 yX0_takes wsX0_takes) := goodIn_app (goodIn_of _ (by decide +kernel)) ggX9_putSigns_X0_takes
set_option maxRecDepth 20000 in
theorem ggX9_putSigns_X0_kindAt : GoodIn wsX9_putSigns wsX0_kindAt := goodIn_r2 cbX9_putSigns_f _ [(4, 7), (1, 6), (9, 0), (9, 1), (9, 2), (9, 3), (9, 4), (9, 5), (9, 6)] rfl (by decide +kernel)
set_option maxRecDepth 20000 in
theorem gX9_putSigns_X0_kindAt : GoodIn wsX9_putSigns (wsV RX9 37 RX0 yX0_kindAt wsX0_kindAt) := goodIn_app (goodIn_of _ (by decide +kernel)) ggX9_putSigns_X0_kindAt
set_option maxRecDepth 20000 in
theorem ggX9_putSigns_X11_letterOf : GoodIn wsX9_putSigns wsX11_letterOf := goodIn_r2 cbX9_putSigns_f _ [(4, 11), (4, 12), (2, 1), (2, 2), (1, 15), (2, 3), (1, 17), (2, 4), (2, 5), (2, 6), (2, 7), (1, 22), (1, 23), (2, 8), (2, 9), (2, 10), (2, 11), (2, 12), (2, 13), (2, 14), (2, 15), (2, 16), (2, 17), (2, 18), (2, 19), (2, 20), (2, 21), (2, 22), (2, 23), (3, 0), (3, 1), (3, 2), (3, 3), (3, 4), (3, 5), (3, 6), (3, 7), (3, 8), (3, 9), (3, 10), (3, 11), (3, 12)] rfl (by decide +kernel)
set_option maxRecDepth 20000 in
theorem gX9_putSigns_X11_letterOf_n41 : GoodIn wsX9_putSigns (wsX11_letterOf) := ggX9_putSigns_X11_letterOf
set_option maxRecDepth 20000 in
theorem ggX9_putSigns_X6_put : GoodIn wsX9_putSigns wsX6_put := goodIn_r2 cbX9_putSigns_f _ [(3, 16), (3, 17), (3, 18), (3, 19), (3, 20), (3, 21), (3, 22), (3, 23), (10, 0), (10, 1)] rfl (by decide +kernel)
set_option maxRecDepth 20000 in
theorem gX9_putSigns_X6_put : GoodIn wsX9_putSigns (wsV RX9 45 RX6 yX6_put wsX6_put) := goodIn_app (goodIn_of _ (by decide +kernel)) ggX9_putSigns_X6_put
set_option maxRecDepth 20000 in
theorem ggX9_putSigns_X9_putApart : GoodIn wsX9_putSigns wsX9_putApart := goodIn_r2 cbX9_putSigns_f _ [(4, 18), (4, 19), (1, 0), (4, 20), (4, 21), (4, 22), (1, 4), (4, 23), (1, 6), (5, 0), (4, 4), (4, 5), (4, 6), (4, 7), (5, 1), (5, 2), (5, 3), (5, 4), (5, 5), (5, 6), (5, 7), (5, 8), (5, 9), (5, 10), (1, 2), (1, 3), (1, 5), (5, 11), (5, 12), (5, 13), (5, 14), (5, 15), (5, 16), (5, 17), (5, 18), (5, 19), (5, 20), (5, 21), (5, 22), (5, 23), (6, 0), (6, 1), (6, 2), (6, 3), (6, 4), (6, 5), (6, 6), (6, 7), (6, 8), (3, 21), (3, 22), (3, 23), (6, 9), (6, 10), (6, 11), (6, 12), (6, 13), (6, 14), (6, 15), (6, 16), (6, 17), (6, 18), (6, 19), (6, 20), (6, 21), (6, 22), (6, 23), (7, 0), (7, 1), (7, 2), (7, 3), (7, 4), (7, 5), (7, 6), (7, 7), (4, 10), (7, 8), (4, 13), (3, 14), (3, 15), (1, 10), (3, 16), (3, 17), (3, 18), (3, 19), (3, 20), (7, 9), (7, 10), (9, 0), (9, 1), (9, 2), (9, 3), (9, 4), (9, 5), (9, 6), (8, 0), (11, 0), (11, 1), (10, 0), (10, 1)] rfl (by decide +kernel)
set_option maxRecDepth 20000 in
theorem gX9_putSigns_X9_putApart : GoodIn wsX9_putSigns (wsV RX9 49 RX9 yX9_putApart wsX9_putApart) := goodIn_app (goodIn_of _ (by decide +kernel)) ggX9_putSigns_X9_putApart
set_option maxRecDepth 20000 in
theorem ggX9_putSigns_X11_fileLetter : GoodIn wsX9_putSigns wsX11_fileLetter := goodIn_r2 cbX9_putSigns_f _ [(7, 8)] rfl (by decide +kernel)
set_option maxRecDepth 20000 in
theorem gX9_putSigns_X11_fileLetter_n53 : GoodIn wsX9_putSigns (wsX11_fileLetter) := ggX9_putSigns_X11_fileLetter
set_option maxRecDepth 20000 in
theorem ggX9_putSigns_X11_rankDigit : GoodIn wsX9_putSigns wsX11_rankDigit := goodIn_r2 cbX9_putSigns_f _ [(7, 10)] rfl (by decide +kernel)
set_option maxRecDepth 20000 in
theorem gX9_putSigns_X11_rankDigit_n56 : GoodIn wsX9_putSigns (wsX11_rankDigit) := ggX9_putSigns_X11_rankDigit
set_option maxRecDepth 20000 in
theorem ggX9_putSigns_X7_checkSign : GoodIn wsX9_putSigns wsX7_checkSign := goodIn_r2 cbX9_putSigns_f _ [(7, 14), (7, 15), (5, 21), (6, 4), (6, 5), (6, 6), (1, 4), (6, 7), (1, 6), (6, 8), (3, 21), (3, 22), (3, 23), (6, 9), (6, 10), (5, 0), (5, 15), (5, 5), (6, 11), (6, 12), (6, 13), (6, 14), (6, 15), (4, 4), (4, 5), (4, 6), (4, 7), (5, 10), (1, 2), (1, 3), (1, 5), (6, 16), (6, 17), (6, 18), (6, 19), (6, 20), (6, 21), (6, 22), (6, 23), (7, 0), (7, 1), (7, 2), (7, 3), (7, 4), (7, 5), (7, 6), (6, 0), (6, 1), (6, 2), (6, 3), (5, 6), (5, 7), (5, 8), (5, 9), (7, 16), (4, 21), (4, 22), (4, 23), (5, 1), (5, 2), (5, 3), (5, 4), (5, 11), (5, 12), (5, 13), (5, 14), (7, 17), (5, 17), (5, 18), (5, 19), (5, 20), (5, 22), (5, 23), (11, 0), (11, 1), (9, 0), (9, 1), (9, 2), (9, 3), (9, 4), (9, 5), (9, 6)] rfl (by decide +kernel)
set_option maxRecDepth 20000 in
theorem gX9_putSigns_X7_checkSign : GoodIn wsX9_putSigns (wsV RX9 59 RX7 yX7_checkSign wsX7_checkSign) := goodIn_app (goodIn_of _ (by decide +kernel)) ggX9_putSigns_X7_checkSign
set_option maxRecDepth 20000 in
theorem ggX9_putApart_X0_reaches : GoodIn wsX9_putApart wsX0_reaches := goodIn_r2 cbX9_putApart_f _ [(1, 6), (1, 7), (1, 8), (1, 9), (1, 10), (1, 11), (1, 5), (1, 12), (1, 13), (1, 14), (1, 15), (1, 16), (1, 17), (1, 18), (1, 19), (1, 20), (1, 21), (1, 22), (1, 23), (2, 0), (2, 1), (2, 2), (2, 3), (2, 4), (2, 5), (2, 6), (5, 0), (5, 1), (5, 2), (5, 3), (5, 4), (5, 5), (5, 6)] rfl (by decide +kernel)
set_option maxRecDepth 20000 in
theorem gX9_putApart_X0_reaches : GoodIn wsX9_putApart (wsV RX9 67 RX0 yX0_reaches wsX0_reaches) := goodIn_app (goodIn_of _ (by decide +kernel)) ggX9_putApart_X0_reaches
set_option maxRecDepth 20000 in
theorem ggX9_putApart_X7_isSafe : GoodIn wsX9_putApart wsX7_isSafe := goodIn_r2 cbX9_putApart_f _ [(2, 11), (2, 12), (2, 13), (2, 14), (1, 23), (2, 0), (1, 5), (2, 1), (1, 7), (2, 15), (2, 16), (2, 17), (2, 18), (1, 18), (1, 19), (1, 20), (1, 21), (2, 19), (2, 20), (2, 21), (2, 22), (2, 23), (3, 0), (3, 1), (3, 2), (3, 3), (3, 4), (1, 8), (2, 6), (1, 17), (3, 5), (3, 6), (3, 7), (3, 8), (3, 9), (1, 9), (1, 10), (1, 11), (1, 12), (1, 22), (3, 10), (3, 11), (3, 12), (3, 13), (3, 14), (3, 15), (3, 16), (3, 17), (3, 18), (3, 19), (3, 20), (3, 21), (3, 22), (3, 23), (4, 0), (5, 0), (5, 1), (5, 2), (5, 3), (5, 4), (5, 5), (5, 6), (7, 0), (7, 1)] rfl (by decide +kernel)
set_option maxRecDepth 20000 in
theorem gX9_putApart_X7_isSafe : GoodIn wsX9_putApart (wsV RX9 70 RX7 yX7_isSafe wsX7_isSafe) := goodIn_app (goodIn_of _ (by decide +kernel)) ggX9_putApart_X7_isSafe
set_option maxRecDepth 20000 in
theorem ggX9_putApart_X11_fileLetter : GoodIn wsX9_putApart wsX11_fileLetter := goodIn_r2 cbX9_putApart_f _ [(4, 3)] rfl (by decide +kernel)
set_option maxRecDepth 20000 in
theorem gX9_putApart_X11_fileLetter_n53 : GoodIn wsX9_putApart (wsX11_fileLetter) := ggX9_putApart_X11_fileLetter
set_option maxRecDepth 20000 in
theorem ggX9_putApart_X6_put : GoodIn wsX9_putApart wsX6_put := goodIn_r2 cbX9_putApart_f _ [(4, 8), (4, 9), (4, 10), (4, 11), (4, 12), (3, 0), (3, 1), (3, 2), (8, 0), (8, 1)] rfl (by decide +kernel)
set_option maxRecDepth 20000 in
theorem gX9_putApart_X6_put : GoodIn wsX9_putApart (wsV RX9 45 RX6 yX6_put wsX6_put) := goodIn_app (goodIn_of _ (by decide +kernel)) ggX9_putApart_X6_put
set_option maxRecDepth 20000 in
theorem ggX9_putApart_X11_rankDigit : GoodIn wsX9_putApart wsX11_rankDigit := goodIn_r2 cbX9_putApart_f _ [(4, 14)] rfl (by decide +kernel)
set_option maxRecDepth 20000 in
theorem gX9_putApart_X11_rankDigit_n56 : GoodIn wsX9_putApart (wsX11_rankDigit) := ggX9_putApart_X11_rankDigit
