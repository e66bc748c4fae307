set_option maxRecDepth 20000 in
theorem ggX9_init_X7_init : GoodIn wsX9_init wsX7_init := goodIn_r _ [9, 10, 2, 3, 11, 12, 13, 14, 15, 16, 17, 18, 19, 20, 21, 22, 23, 24, 25, 26, 30, 31, 32, 33, 34, 35, 36, 27, 28] rfl (by decide +kernel)
set_option maxRecDepth 20000 in
theorem gX9_init_X7_init_n11 : GoodIn wsX9_init (wsX7_init) := ggX9_init_X7_init
set_option maxRecDepth 20000 in
theorem ggX9_putSigns_X0_castles : GoodIn wsX9_putSigns wsX0_castles := goodIn_r _ [6, 7, 164, 165, 166, 167, 168, 169, 170] rfl (by decide +kernel)
set_option maxRecDepth 20000 in
theorem gX9_putSigns_X0_castles : GoodIn wsX9_putSigns (wsV RX9 18 RX0 yX0_castles wsX0_castles) := goodIn_app (goodIn_of _ (by decide +kernel)) ggX9_putSigns_X0_castles
set_option maxRecDepth 20000 in
theorem ggX9_putSigns_X6_putText : GoodIn wsX9_putSigns wsX6_putText := goodIn_r _ [12, 13, 14, 15, 16, 17, 18, 19, 20, 21, 22, 23, 24, 25, 26, 27, 28, 29, 30, 31, 32, 33, 34, 35, 36, 37, 38, 39, 40, 41, 42, 43, 44, 45, 46, 47, 48, 49, 50, 51, 52, 53, 54, 55, 56, 57, 58, 59, 60, 61, 62, 63, 64, 11, 65, 66, 67, 68, 69, 70, 71, 72, 171, 172] rfl (by decide +kernel)
set_option maxRecDepth 20000 in
theorem gX9_putSigns_X6_putText : GoodIn wsX9_putSigns (wsV RX9 28 RX6 yX6_putText wsX6_putText) := goodIn_app (goodIn_of _ (by decide +kernel)) ggX9_putSigns_X6_putText
set_option maxRecDepth 20000 in
theorem ggX9_putSigns_X0_takes : GoodIn wsX9_putSigns wsX0_takes := goodIn_r _ [76, 7, 77, 78, 79, 5, 80, 164, 165, 166, 167, 168, 169, 170] rfl (by decide +kernel)
set_option maxRecDepth 20000 in
theorem gX9_putSigns_X0_takes : GoodIn wsX9_putSigns (wsV RX9 34 RX0 yX0_takes wsX0_takes) := goodIn_app (goodIn_of _ (by decide +kernel)) ggX9_putSigns_X0_takes
set_option maxRecDepth 20000 in
theorem ggX9_putSigns_X0_kindAt : GoodIn wsX9_putSigns wsX0_kindAt := goodIn_r _ [80, 7, 164, 165, 166, 167, 168, 169, 170] rfl (by decide +kernel)
set_option maxRecDepth 20000 in
theorem gX9_putSigns_X0_kindAt : GoodIn wsX9_putSigns (wsV RX9 37 RX0 yX0_kindAt wsX0_kindAt) := goodIn_app (goodIn_of _ (by decide +kernel)) ggX9_putSigns_X0_kindAt
set_option maxRecDepth 20000 in
theorem ggX9_putSigns_X11_letterOf : GoodIn wsX9_putSigns wsX11_letterOf := goodIn_r _ [84, 85, 26, 27, 16, 28, 18, 29, 30, 31, 32, 23, 24, 33, 34, 35, 36, 37, 38, 39, 40, 41, 42, 43, 44, 45, 46, 47, 48, 49, 50, 51, 52, 53, 54, 55, 56, 57, 58, 59, 60, 61] rfl (by decide +kernel)
set_option maxRecDepth 20000 in
theorem gX9_putSigns_X11_letterOf_n41 : GoodIn wsX9_putSigns (wsX11_letterOf) := ggX9_putSigns_X11_letterOf
set_option maxRecDepth 20000 in
theorem ggX9_putSigns_X6_put : GoodIn wsX9_putSigns wsX6_put := goodIn_r _ [65, 66, 67, 68, 69, 70, 71, 72, 171, 172] rfl (by decide +kernel)
set_option maxRecDepth 20000 in
theorem gX9_putSigns_X6_put : GoodIn wsX9_putSigns (wsV RX9 45 RX6 yX6_put wsX6_put) := goodIn_app (goodIn_of _ (by decide +kernel)) ggX9_putSigns_X6_put
set_option maxRecDepth 20000 in
theorem ggX9_putSigns_X9_putApart : GoodIn wsX9_putSigns wsX9_putApart := goodIn_r _ [91, 92, 1, 93, 94, 95, 5, 96, 7, 97, 77, 78, 79, 80, 98, 99, 100, 101, 102, 103, 104, 105, 106, 107, 3, 4, 6, 108, 109, 110, 111, 112, 113, 114, 115, 116, 117, 118, 119, 120, 121, 122, 123, 124, 125, 126, 127, 128, 129, 70, 71, 72, 130, 131, 132, 133, 134, 135, 136, 137, 138, 139, 140, 141, 142, 143, 144, 145, 146, 147, 148, 149, 150, 151, 152, 83, 153, 86, 63, 64, 11, 65, 66, 67, 68, 69, 154, 155, 164, 165, 166, 167, 168, 169, 170, 163, 173, 174, 171, 172] rfl (by decide +kernel)
set_option maxRecDepth 20000 in
theorem gX9_putSigns_X9_putApart : GoodIn wsX9_putSigns (wsV RX9 49 RX9 yX9_putApart wsX9_putApart) := goodIn_app (goodIn_of _ (by decide +kernel)) ggX9_putSigns_X9_putApart
set_option maxRecDepth 20000 in
theorem ggX9_putSigns_X11_fileLetter : GoodIn wsX9_putSigns wsX11_fileLetter := goodIn_r _ [153] rfl (by decide +kernel)
set_option maxRecDepth 20000 in
theorem gX9_putSigns_X11_fileLetter_n53 : GoodIn wsX9_putSigns (wsX11_fileLetter) := ggX9_putSigns_X11_fileLetter
set_option maxRecDepth 20000 in
theorem ggX9_putSigns_X11_rankDigit : GoodIn wsX9_putSigns wsX11_rankDigit := goodIn_r _ [155] rfl (by decide +kernel)
set_option maxRecDepth 20000 in
theorem gX9_putSigns_X11_rankDigit_n56 : GoodIn wsX9_putSigns (wsX11_rankDigit) := ggX9_putSigns_X11_rankDigit
set_option maxRecDepth 20000 in
theorem ggX9_putSigns_X7_checkSign : GoodIn wsX9_putSigns wsX7_checkSign := goodIn_r _ [159, 160, 118, 125, 126, 127, 5, 128, 7, 129, 70, 71, 72, 130, 131, 97, 112, 102, 132, 133, 134, 135, 136, 77, 78, 79, 80, 107, 3, 4, 6, 137, 138, 139, 140, 141, 142, 143, 144, 145, 146, 147, 148, 149, 150, 151, 121, 122, 123, 124, 103, 104, 105, 106, 161, 94, 95, 96, 98, 99, 100, 101, 108, 109, 110, 111, 162, 114, 115, 116, 117, 119, 120, 173, 174, 164, 165, 166, 167, 168, 169, 170] rfl (by decide +kernel)
set_option maxRecDepth 20000 in
theorem gX9_putSigns_X7_checkSign : GoodIn wsX9_putSigns (wsV RX9 59 RX7 yX7_checkSign wsX7_checkSign) := goodIn_app (goodIn_of _ (by decide +kernel)) ggX9_putSigns_X7_checkSign
set_option maxRecDepth 20000 in
theorem ggX9_putApart_X0_reaches : GoodIn wsX9_putApart wsX0_reaches := goodIn_r _ [7, 8, 9, 10, 11, 12, 6, 13, 14, 15, 16, 17, 18, 19, 20, 21, 22, 23, 24, 25, 26, 27, 28, 29, 30, 31, 88, 89, 90, 91, 92, 93, 94] rfl (by decide +kernel)
set_option maxRecDepth 20000 in
theorem gX9_putApart_X0_reaches : GoodIn wsX9_putApart (wsV RX9 67 RX0 yX0_reaches wsX0_reaches) := goodIn_app (goodIn_of _ (by decide +kernel)) ggX9_putApart_X0_reaches
set_option maxRecDepth 20000 in
theorem ggX9_putApart_X7_isSafe : GoodIn wsX9_putApart wsX7_isSafe := goodIn_r _ [36, 37, 38, 39, 24, 25, 6, 26, 8, 40, 41, 42, 43, 19, 20, 21, 22, 44, 45, 46, 47, 48, 49, 50, 51, 52, 53, 9, 31, 18, 54, 55, 56, 57, 58, 10, 11, 12, 13, 23, 59, 60, 61, 62, 63, 64, 65, 66, 67, 68, 69, 70, 71, 72, 73, 88, 89, 90, 91, 92, 93, 94, 96, 97] rfl (by decide +kernel)
set_option maxRecDepth 20000 in
theorem gX9_putApart_X7_isSafe : GoodIn wsX9_putApart (wsV RX9 70 RX7 yX7_isSafe wsX7_isSafe) := goodIn_app (goodIn_of _ (by decide +kernel)) ggX9_putApart_X7_isSafe
set_option maxRecDepth 20000 in
theorem ggX9_putApart_X11_fileLetter : GoodIn wsX9_putApart wsX11_fileLetter := goodIn_r _ [76] rfl (by decide +kernel)
set_option maxRecDepth 20000 in
theorem gX9_putApart_X11_fileLetter_n53 : GoodIn wsX9_putApart (wsX11_fileLetter) := ggX9_putApart_X11_fileLetter
set_option maxRecDepth 20000 in
theorem ggX9_putApart_X6_put : GoodIn wsX9_putApart wsX6_put := goodIn_r _ [81, 82, 83, 84, 85, 49, 50, 51, 98, 99] rfl (by decide +kernel)
set_option maxRecDepth 20000 in
theorem gX9_putApart_X6_put : GoodIn wsX9_putApart (wsV RX9 45 RX6 yX6_put wsX6_put) := goodIn_app (goodIn_of _ (by decide +kernel)) ggX9_putApart_X6_put
set_option maxRecDepth 20000 in
theorem ggX9_putApart_X11_rankDigit : GoodIn wsX9_putApart wsX11_rankDigit := goodIn_r _ [87] rfl (by decide +kernel)
set_option maxRecDepth 20000 in
theorem gX9_putApart_X11_rankDigit_n56 : GoodIn wsX9_putApart (wsX11_rankDigit) := ggX9_putApart_X11_rankDigit
