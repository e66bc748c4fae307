set_option maxRecDepth 20000 in
theorem ggX5_init_X6_init : GoodIn wsX5_init wsX6_init := goodIn_r _ [10, 11, 2, 3, 12, 13, 14, 15, 16] rfl (by decide +kernel)
set_option maxRecDepth 20000 in
theorem gX5_init_X6_init_n11 : GoodIn wsX5_init (wsX6_init) := ggX5_init_X6_init
set_option maxRecDepth 20000 in
theorem ggX5_readInto_X0_wipe : GoodIn wsX5_readInto wsX0_wipe := goodIn_r _ [7, 8, 9, 10, 11, 12, 222, 223, 224, 225, 226, 227, 228] rfl (by decide +kernel)
set_option maxRecDepth 20000 in
theorem gX5_readInto_X0_wipe : GoodIn wsX5_readInto (wsV RX5 22 RX0 yX0_wipe wsX0_wipe) := goodIn_app (goodIn_of _ (by decide +kernel)) ggX5_readInto_X0_wipe
set_option maxRecDepth 20000 in
theorem ggX5_readInto_X5_readMen : GoodIn wsX5_readInto wsX5_readMen := goodIn_r _ [17, 18, 19, 20, 16, 21, 1, 2, 22, 23, 24, 25, 26, 27, 28, 29, 30, 31, 32, 33, 34, 35, 36, 37, 38, 39, 40, 41, 42, 43, 44, 45, 46, 47, 48, 49, 50, 51, 52, 53, 54, 55, 56, 57, 58, 59, 60, 61, 62, 63, 64, 65, 66, 67, 68, 69, 70, 71, 72, 73, 74, 75, 76, 77, 78, 79, 80, 81, 82, 83, 84, 85, 86, 87, 88, 89, 90, 91, 92, 93, 94, 95, 96, 97, 98, 99, 100, 101, 102, 103, 104, 105, 106, 107, 108, 109, 110, 111, 112, 113, 114, 115, 116, 117, 118, 119, 120, 121, 122, 123, 124, 125, 126, 127, 128, 129, 6, 130, 8, 131, 132, 220, 221, 229, 230, 222, 223, 224, 225, 226, 227, 228] rfl (by decide +kernel)
set_option maxRecDepth 20000 in
theorem gX5_readInto_X5_readMen : GoodIn wsX5_readInto (wsV RX5 27 RX5 yX5_readMen wsX5_readMen) := goodIn_app (goodIn_of _ (by decide +kernel)) ggX5_readInto_X5_readMen
set_option maxRecDepth 20000 in
theorem ggX5_readInto_X5_skip : GoodIn wsX5_readInto wsX5_skip := goodIn_r _ [21, 1, 2, 22, 23, 24, 25, 26, 27, 28, 220, 221, 229, 230] rfl (by decide +kernel)
set_option maxRecDepth 20000 in
theorem gX5_readInto_X5_skip : GoodIn wsX5_readInto (wsV RX5 31 RX5 yX5_skip wsX5_skip) := goodIn_app (goodIn_of _ (by decide +kernel)) ggX5_readInto_X5_skip
set_option maxRecDepth 20000 in
theorem ggX5_readInto_X5_readSide : GoodIn wsX5_readInto wsX5_readSide := goodIn_r _ [136, 1, 2, 137, 22, 23, 24, 25, 26, 27, 28, 18, 19, 20, 16, 21, 220, 221, 222, 223, 224, 225, 226, 227, 228, 229, 230] rfl (by decide +kernel)
set_option maxRecDepth 20000 in
theorem gX5_readInto_X5_readSide : GoodIn wsX5_readInto (wsV RX5 35 RX5 yX5_readSide wsX5_readSide) := goodIn_app (goodIn_of _ (by decide +kernel)) ggX5_readInto_X5_readSide
set_option maxRecDepth 20000 in
theorem ggX5_readInto_X5_readRights : GoodIn wsX5_readInto wsX5_readRights := goodIn_r _ [141, 142, 18, 19, 20, 16, 21, 1, 2, 22, 23, 24, 25, 26, 27, 28, 143, 55, 56, 41, 57, 47, 58, 59, 60, 61, 52, 53, 144, 145, 146, 147, 48, 49, 50, 51, 148, 149, 64, 150, 151, 152, 153, 98, 154, 155, 101, 156, 157, 158, 81, 159, 160, 161, 162, 92, 93, 94, 163, 106, 107, 108, 109, 110, 111, 222, 223, 224, 225, 226, 227, 228, 220, 221, 229, 230] rfl (by decide +kernel)
set_option maxRecDepth 20000 in
theorem gX5_readInto_X5_readRights : GoodIn wsX5_readInto (wsV RX5 38 RX5 yX5_readRights wsX5_readRights) := goodIn_app (goodIn_of _ (by decide +kernel)) ggX5_readInto_X5_readRights
set_option maxRecDepth 20000 in
theorem ggX5_readInto_X5_readPassed : GoodIn wsX5_readInto wsX5_readPassed := goodIn_r _ [167, 1, 2, 168, 18, 19, 20, 16, 21, 22, 23, 24, 25, 26, 27, 28, 169, 34, 170, 171, 172, 173, 174, 33, 35, 220, 221, 222, 223, 224, 225, 226, 227, 228, 229, 230] rfl (by decide +kernel)
set_option maxRecDepth 20000 in
theorem gX5_readInto_X5_readPassed : GoodIn wsX5_readInto (wsV RX5 41 RX5 yX5_readPassed wsX5_readPassed) := goodIn_app (goodIn_of _ (by decide +kernel)) ggX5_readInto_X5_readPassed
set_option maxRecDepth 20000 in
theorem ggX5_readInto_X5_readNumber : GoodIn wsX5_readInto wsX5_readNumber := goodIn_r _ [178, 2, 1, 22, 23, 24, 25, 26, 27, 28, 179, 34, 180, 220, 221, 229, 230] rfl (by decide +kernel)
set_option maxRecDepth 20000 in
theorem gX5_readInto_X5_readNumber : GoodIn wsX5_readInto (wsV RX5 44 RX5 yX5_readNumber wsX5_readNumber) := goodIn_app (goodIn_of _ (by decide +kernel)) ggX5_readInto_X5_readNumber
set_option maxRecDepth 20000 in
theorem ggX5_readInto_X5_readMoveNumber : GoodIn wsX5_readInto wsX5_readMoveNumber := goodIn_r _ [184, 185, 175, 176, 177, 16, 178, 2, 1, 22, 23, 24, 25, 26, 27, 28, 179, 34, 180, 222, 223, 224, 225, 226, 227, 228, 220, 221, 229, 230] rfl (by decide +kernel)
set_option maxRecDepth 20000 in
theorem gX5_readInto_X5_readMoveNumber : GoodIn wsX5_readInto (wsV RX5 48 RX5 yX5_readMoveNumber wsX5_readMoveNumber) := goodIn_app (goodIn_of _ (by decide +kernel)) ggX5_readInto_X5_readMoveNumber
set_option maxRecDepth 20000 in
theorem ggX5_readInto_X6_size : GoodIn wsX5_readInto wsX6_size := goodIn_r _ [189, 27, 229, 230] rfl (by decide +kernel)
set_option maxRecDepth 20000 in
theorem gX5_readInto_X6_size : GoodIn wsX5_readInto (wsV RX5 51 RX6 yX6_size wsX6_size) := goodIn_app (goodIn_of _ (by decide +kernel)) ggX5_readInto_X6_size
set_option maxRecDepth 20000 in
theorem ggX5_readInto_X5_hasSoundMen : GoodIn wsX5_readInto wsX5_hasSoundMen := goodIn_r _ [192, 193, 137, 194, 195, 196, 6, 197, 8, 198, 199, 200, 201, 131, 132, 202, 203, 204, 205, 206, 207, 208, 209, 222, 223, 224, 225, 226, 227, 228] rfl (by decide +kernel)
set_option maxRecDepth 20000 in
theorem gX5_readInto_X5_hasSoundMen : GoodIn wsX5_readInto (va_wsS RX5 54 yX5_hasSoundMen wsX5_hasSoundMen) := goodIn_app (goodIn_of _ (by decide +kernel)) ggX5_readInto_X5_hasSoundMen
set_option maxRecDepth 20000 in
theorem ggX5_readInto_X5_hasSoundRights : GoodIn wsX5_readInto wsX5_hasSoundRights := goodIn_r _ [212, 142, 193, 143, 55, 56, 41, 57, 47, 58, 59, 60, 61, 52, 53, 222, 223, 224, 225, 226, 227, 228] rfl (by decide +kernel)
set_option maxRecDepth 20000 in
theorem gX5_readInto_X5_hasSoundRights : GoodIn wsX5_readInto (va_wsS RX5 57 yX5_hasSoundRights wsX5_hasSoundRights) := goodIn_app (goodIn_of _ (by decide +kernel)) ggX5_readInto_X5_hasSoundRights
set_option maxRecDepth 20000 in
theorem ggX5_readInto_X5_hasSoundPassed : GoodIn wsX5_readInto wsX5_hasSoundPassed := goodIn_r _ [215, 168, 137, 193, 216, 217, 218, 6, 219, 8, 222, 223, 224, 225, 226, 227, 228] rfl (by decide +kernel)
set_option maxRecDepth 20000 in
theorem gX5_readInto_X5_hasSoundPassed : GoodIn wsX5_readInto (va_wsS RX5 60 yX5_hasSoundPassed wsX5_hasSoundPassed) := goodIn_app (goodIn_of _ (by decide +kernel)) ggX5_readInto_X5_hasSoundPassed
set_option maxRecDepth 20000 in
theorem ggX5_skip_X6_at : GoodIn wsX5_skip wsX6_at := goodIn_r _ [7, 8, 9, 12, 13] rfl (by decide +kernel)
set_option maxRecDepth 20000 in
theorem gX5_skip_X6_at : GoodIn wsX5_skip (wsV RX5 63 RX6 yX6_at wsX6_at) := goodIn_app (goodIn_of _ (by decide +kernel)) ggX5_skip_X6_at
set_option maxRecDepth 20000 in
theorem ggX5_readMen_X5_skip : GoodIn wsX5_readMen wsX5_skip := goodIn_r _ [5, 6, 7, 8, 9, 10, 11, 12, 13, 14, 121, 122, 123, 124] rfl (by decide +kernel)
set_option maxRecDepth 20000 in
theorem gX5_readMen_X5_skip : GoodIn wsX5_readMen (wsV RX5 31 RX5 yX5_skip wsX5_skip) := goodIn_app (goodIn_of _ (by decide +kernel)) ggX5_readMen_X5_skip
set_option maxRecDepth 20000 in
theorem ggX5_readMen_X5_readRank : GoodIn wsX5_readMen wsX5_readRank := goodIn_r _ [18, 6, 7, 8, 9, 10, 11, 12, 13, 14, 19, 20, 21, 22, 23, 24, 25, 26, 27, 28, 29, 30, 31, 32, 33, 34, 35, 36, 37, 38, 39, 40, 41, 42, 43, 44, 45, 46, 47, 48, 49, 50, 51, 52, 53, 54, 55, 56, 57, 58, 59, 60, 61, 62, 63, 64, 65, 66, 67, 68, 69, 70, 71, 72, 73, 74, 75, 76, 77, 78, 79, 80, 81, 82, 83, 84, 85, 86, 87, 88, 89, 90, 91, 92, 93, 94, 95, 96, 97, 98, 99, 100, 101, 102, 103, 104, 105, 106, 107, 108, 109, 110, 111, 112, 113, 114, 115, 116, 117, 118, 119, 120, 121, 122, 123, 124, 125, 126, 127, 128, 129, 130, 131] rfl (by decide +kernel)
set_option maxRecDepth 20000 in
theorem gX5_readMen_X5_readRank : GoodIn wsX5_readMen (wsV RX5 66 RX5 yX5_readRank wsX5_readRank) := goodIn_app (goodIn_of _ (by decide +kernel)) ggX5_readMen_X5_readRank
set_option maxRecDepth 20000 in
theorem ggX5_readRank_X6_at : GoodIn wsX5_readRank wsX6_at := goodIn_r _ [7, 8, 9, 114, 115] rfl (by decide +kernel)
set_option maxRecDepth 20000 in
theorem gX5_readRank_X6_at : GoodIn wsX5_readRank (wsV RX5 63 RX6 yX6_at wsX6_at) := goodIn_app (goodIn_of _ (by decide +kernel)) ggX5_readRank_X6_at
set_option maxRecDepth 20000 in
theorem ggX5_readRank_X11_isRank : GoodIn wsX5_readRank wsX11_isRank := goodIn_r _ [12] rfl (by decide +kernel)
set_option maxRecDepth 20000 in
theorem gX5_readRank_X11_isRank_n70 : GoodIn wsX5_readRank (wsX11_isRank) := ggX5_readRank_X11_isRank
set_option maxRecDepth 20000 in
theorem ggX5_readRank_X11_isLetter : GoodIn wsX5_readRank wsX11_isLetter := goodIn_r _ [14] rfl (by decide +kernel)
set_option maxRecDepth 20000 in
theorem gX5_readRank_X11_isLetter_n73 : GoodIn wsX5_readRank (wsX11_isLetter) := ggX5_readRank_X11_isLetter
set_option maxRecDepth 20000 in
theorem ggX5_readRank_J0_indexOf_0f7a4 : GoodIn wsX5_readRank wsJ0_indexOf_0f7a4 := goodIn_r _ [19, 20, 21, 22, 18, 23, 24, 25, 26, 27, 28, 29, 30, 31, 32, 33, 34, 35, 36, 37, 38, 39, 40, 41, 42, 43, 44, 45, 46, 47, 48, 49, 50, 51, 52, 53, 54, 55, 56, 57, 58, 59, 60, 61, 62, 63, 64, 65, 66, 67, 68, 69, 70, 71, 72, 73, 74, 75, 76, 77, 78, 79, 80, 81, 82, 83, 84, 85, 86, 87, 88, 89, 90, 91, 92, 93, 94, 95, 96, 97, 98, 99, 100, 101, 102, 103] rfl (by decide +kernel)
set_option maxRecDepth 20000 in
theorem gX5_readRank_J0_indexOf_0f7a4 : GoodIn wsX5_readRank (wsV RX5 78 RJ0 yJ0_indexOf_0f7a4 wsJ0_indexOf_0f7a4) := goodIn_app (goodIn_of _ (by decide +kernel)) ggX5_readRank_J0_indexOf_0f7a4
set_option maxRecDepth 20000 in
theorem ggX5_readRank_X0_put : GoodIn wsX5_readRank wsX0_put := goodIn_r _ [108, 109, 110, 111, 116, 117, 118, 119, 120, 121, 122] rfl (by decide +kernel)
set_option maxRecDepth 20000 in
theorem gX5_readRank_X0_put : GoodIn wsX5_readRank (wsV RX5 84 RX0 yX0_put wsX0_put) := goodIn_app (goodIn_of _ (by decide +kernel)) ggX5_readRank_X0_put
set_option maxRecDepth 20000 in
theorem ggX5_readSide_X6_at : GoodIn wsX5_readSide wsX6_at := goodIn_r _ [8, 9, 10, 25, 26] rfl (by decide +kernel)
set_option maxRecDepth 20000 in
theorem gX5_readSide_X6_at : GoodIn wsX5_readSide (wsV RX5 63 RX6 yX6_at wsX6_at) := goodIn_app (goodIn_of _ (by decide +kernel)) ggX5_readSide_X6_at
set_option maxRecDepth 20000 in
theorem ggX5_readSide_X5_skip : GoodIn wsX5_readSide wsX5_skip := goodIn_r _ [15, 1, 2, 4, 5, 6, 7, 8, 9, 10, 16, 17, 25, 26] rfl (by decide +kernel)
set_option maxRecDepth 20000 in
theorem gX5_readSide_X5_skip : GoodIn wsX5_readSide (wsV RX5 31 RX5 yX5_skip wsX5_skip) := goodIn_app (goodIn_of _ (by decide +kernel)) ggX5_readSide_X5_skip
set_option maxRecDepth 20000 in
theorem ggX5_readRights_X5_skip : GoodIn wsX5_readRights wsX5_skip := goodIn_r _ [6, 7, 8, 9, 10, 11, 12, 13, 14, 15, 72, 73, 74, 75] rfl (by decide +kernel)
set_option maxRecDepth 20000 in
theorem gX5_readRights_X5_skip : GoodIn wsX5_readRights (wsV RX5 31 RX5 yX5_skip wsX5_skip) := goodIn_app (goodIn_of _ (by decide +kernel)) ggX5_readRights_X5_skip
set_option maxRecDepth 20000 in
theorem ggX5_readRights_J0_length_8abf5 : GoodIn wsX5_readRights wsJ0_length_8abf5 := goodIn_r _ [20, 21, 22, 23, 24, 19, 25, 26, 27] rfl (by decide +kernel)
set_option maxRecDepth 20000 in
theorem gX5_readRights_J0_length_8abf5 : GoodIn wsX5_readRights (wsV RX5 93 RJ0 yJ0_length_8abf5 wsJ0_length_8abf5) := goodIn_app (goodIn_of _ (by decide +kernel)) ggX5_readRights_J0_length_8abf5
set_option maxRecDepth 20000 in
theorem ggX5_readRights_J0_charAt_5068e : GoodIn wsX5_readRights wsJ0_charAt_5068e := goodIn_r _ [31, 21, 32, 33, 34, 19, 35, 26, 27, 36, 37, 38, 39, 40, 41, 42, 43, 44, 45, 46, 47, 48, 49, 50, 51, 52, 53, 54, 55, 56, 57, 58, 59, 60, 61, 62, 63, 64] rfl (by decide +kernel)
set_option maxRecDepth 20000 in
theorem gX5_readRights_J0_charAt_5068e : GoodIn wsX5_readRights (wsV RX5 96 RJ0 yJ0_charAt_5068e wsJ0_charAt_5068e) := goodIn_app (goodIn_of _ (by decide +kernel)) ggX5_readRights_J0_charAt_5068e
set_option maxRecDepth 20000 in
theorem ggX5_readPassed_X5_skip : GoodIn wsX5_readPassed wsX5_skip := goodIn_r _ [8, 1, 2, 9, 10, 11, 12, 13, 14, 15, 25, 26, 34, 35] rfl (by decide +kernel)
set_option maxRecDepth 20000 in
theorem gX5_readPassed_X5_skip : GoodIn wsX5_readPassed (wsV RX5 31 RX5 yX5_skip wsX5_skip) := goodIn_app (goodIn_of _ (by decide +kernel)) ggX5_readPassed_X5_skip
set_option maxRecDepth 20000 in
theorem ggX5_readPassed_X6_at : GoodIn wsX5_readPassed wsX6_at := goodIn_r _ [13, 14, 15, 34, 35] rfl (by decide +kernel)
set_option maxRecDepth 20000 in
theorem gX5_readPassed_X6_at : GoodIn wsX5_readPassed (wsV RX5 63 RX6 yX6_at wsX6_at) := goodIn_app (goodIn_of _ (by decide +kernel)) ggX5_readPassed_X6_at
set_option maxRecDepth 20000 in
theorem ggX5_readPassed_X11_squareOf : GoodIn wsX5_readPassed wsX11_squareOf := goodIn_r _ [18, 19, 20, 17, 21, 22, 23, 24] rfl (by decide +kernel)
set_option maxRecDepth 20000 in
theorem gX5_readPassed_X11_squareOf_n102 : GoodIn wsX5_readPassed (wsX11_squareOf) := ggX5_readPassed_X11_squareOf
set_option maxRecDepth 20000 in
theorem ggX5_readNumber_X6_at : GoodIn wsX5_readNumber wsX6_at := goodIn_r _ [7, 8, 9, 15, 16] rfl (by decide +kernel)
set_option maxRecDepth 20000 in
theorem gX5_readNumber_X6_at : GoodIn wsX5_readNumber (wsV RX5 63 RX6 yX6_at wsX6_at) := goodIn_app (goodIn_of _ (by decide +kernel)) ggX5_readNumber_X6_at
set_option maxRecDepth 20000 in
theorem ggX5_readNumber_X11_isDigit : GoodIn wsX5_readNumber wsX11_isDigit := goodIn_r _ [12] rfl (by decide +kernel)
set_option maxRecDepth 20000 in
theorem gX5_readNumber_X11_isDigit_n109 : GoodIn wsX5_readNumber (wsX11_isDigit) := ggX5_readNumber_X11_isDigit
set_option maxRecDepth 20000 in
theorem ggX5_readMoveNumber_X5_readNumber : GoodIn wsX5_readMoveNumber wsX5_readNumber := goodIn_r _ [6, 7, 8, 9, 10, 11, 12, 13, 14, 15, 16, 17, 18, 26, 27, 28, 29] rfl (by decide +kernel)
set_option maxRecDepth 20000 in
theorem gX5_readMoveNumber_X5_readNumber : GoodIn wsX5_readMoveNumber (wsV RX5 44 RX5 yX5_readNumber wsX5_readNumber) := goodIn_app (goodIn_of _ (by decide +kernel)) ggX5_readMoveNumber_X5_readNumber
set_option maxRecDepth 20000 in
theorem ggX5_hasSoundMen_X0_kindAt : GoodIn wsX5_hasSoundMen wsX0_kindAt := goodIn_r _ [7, 8, 23, 24, 25, 26, 27, 28, 29] rfl (by decide +kernel)
set_option maxRecDepth 20000 in
theorem gX5_hasSoundMen_X0_kindAt : GoodIn wsX5_hasSoundMen (wsV RX5 119 RX0 yX0_kindAt wsX0_kindAt) := goodIn_app (goodIn_of _ (by decide +kernel)) ggX5_hasSoundMen_X0_kindAt
set_option maxRecDepth 20000 in
theorem ggX5_hasSoundMen_X0_kingOf : GoodIn wsX5_hasSoundMen wsX0_kingOf := goodIn_r _ [12, 13, 14, 23, 24, 25, 26, 27, 28, 29] rfl (by decide +kernel)
set_option maxRecDepth 20000 in
theorem gX5_hasSoundMen_X0_kingOf : GoodIn wsX5_hasSoundMen (wsV RX5 122 RX0 yX0_kingOf wsX0_kingOf) := goodIn_app (goodIn_of _ (by decide +kernel)) ggX5_hasSoundMen_X0_kingOf
set_option maxRecDepth 20000 in
theorem ggX5_hasSoundMen_X0_attacked : GoodIn wsX5_hasSoundMen wsX0_attacked := goodIn_r _ [18, 8, 19, 20, 21, 6, 22, 23, 24, 25, 26, 27, 28, 29] rfl (by decide +kernel)
set_option maxRecDepth 20000 in
theorem gX5_hasSoundMen_X0_attacked : GoodIn wsX5_hasSoundMen (wsV RX5 125 RX0 yX0_attacked wsX0_attacked) := goodIn_app (goodIn_of _ (by decide +kernel)) ggX5_hasSoundMen_X0_attacked
set_option maxRecDepth 20000 in
theorem ggX5_hasSoundRights_J0_length_8abf5 : GoodIn wsX5_hasSoundRights wsJ0_length_8abf5 := goodIn_r _ [7, 8, 9, 10, 11, 6, 12, 13, 14] rfl (by decide +kernel)
set_option maxRecDepth 20000 in
theorem gX5_hasSoundRights_J0_length_8abf5 : GoodIn wsX5_hasSoundRights (wsV RX5 93 RJ0 yJ0_length_8abf5 wsJ0_length_8abf5) := goodIn_app (goodIn_of _ (by decide +kernel)) ggX5_hasSoundRights_J0_length_8abf5
set_option maxRecDepth 20000 in
theorem ggX5_hasSoundPassed_X0_pawnAttacks : GoodIn wsX5_hasSoundPassed wsX0_pawnAttacks := goodIn_r _ [8, 9, 10, 11, 12, 13, 14, 15, 16] rfl (by decide +kernel)
set_option maxRecDepth 20000 in
theorem gX5_hasSoundPassed_X0_pawnAttacks : GoodIn wsX5_hasSoundPassed (wsV RX5 129 RX0 yX0_pawnAttacks wsX0_pawnAttacks) := goodIn_app (goodIn_of _ (by decide +kernel)) ggX5_hasSoundPassed_X0_pawnAttacks
