set_option maxRecDepth 20000 in
theorem ggX12_spellWhole_X12_spell : GoodIn wsX12_spellWhole wsX12_spell := goodIn_r _ [28, 29, 20, 110, 111, 112, 113, 114, 115, 116, 117, 118, 119, 120, 121, 122, 123, 124, 125, 126, 127, 128, 129, 130, 131, 132, 133, 134, 135, 136, 137, 138, 139, 140, 141, 142, 143, 144, 145, 146, 147, 148, 149] rfl (by decide +kernel)
set_option maxRecDepth 20000 in
theorem gX12_spellWhole_X12_spell : GoodIn wsX12_spellWhole (wsV RX12 194 RX12 yX12_spell wsX12_spell) := goodIn_app (goodIn_of _ (by decide +kernel)) ggX12_spellWhole_X12_spell
set_option maxRecDepth 20000 in
theorem ggX12_fits_X12_kind : GoodIn wsX12_fits wsX12_kind := goodIn_r _ [6] rfl (by decide +kernel)
set_option maxRecDepth 20000 in
theorem gX12_fits_X12_kind : GoodIn wsX12_fits (va_wsS RX12 136 yX12_kind wsX12_kind) := goodIn_app (goodIn_of _ (by decide +kernel)) ggX12_fits_X12_kind
set_option maxRecDepth 20000 in
theorem ggX12_fits_X12_isTaking : GoodIn wsX12_fits wsX12_isTaking := goodIn_r _ [10, 1, 3, 4, 5, 6, 109, 110, 111, 112, 113, 114, 115, 116, 117, 118, 119, 120, 121, 122, 123, 124, 125, 126, 127, 128, 129, 130, 131, 132, 133, 134, 135, 136, 137, 138, 139, 140, 141, 142, 143, 144, 145, 146, 147, 148] rfl (by decide +kernel)
set_option maxRecDepth 20000 in
theorem gX12_fits_X12_isTaking : GoodIn wsX12_fits (wsV RX12 139 RX12 yX12_isTaking wsX12_isTaking) := goodIn_app (goodIn_of _ (by decide +kernel)) ggX12_fits_X12_isTaking
set_option maxRecDepth 20000 in
theorem ggX12_fits_X12_isCastling : GoodIn wsX12_fits wsX12_isCastling := goodIn_r _ [14, 1, 3, 4, 5, 6, 109, 110, 111, 112, 113, 114, 115, 116, 117, 118, 119, 120, 121, 122, 123, 124, 125, 126, 127, 128, 129, 130, 131, 132, 133, 134, 135, 136, 137, 138, 139, 140, 141, 142, 143, 144, 145, 146, 147, 148] rfl (by decide +kernel)
set_option maxRecDepth 20000 in
theorem gX12_fits_X12_isCastling : GoodIn wsX12_fits (wsV RX12 198 RX12 yX12_isCastling wsX12_isCastling) := goodIn_app (goodIn_of _ (by decide +kernel)) ggX12_fits_X12_isCastling
set_option maxRecDepth 20000 in
theorem ggX12_fits_X12_spellMove : GoodIn wsX12_fits wsX12_spellMove := goodIn_r _ [18, 19, 1, 11, 12, 13, 5, 14, 3, 4, 6, 20, 21, 22, 23, 24, 25, 26, 27, 28, 29, 30, 31, 109, 110, 111, 112, 113, 114, 115, 116, 117, 118, 119, 120, 121, 122, 123, 124, 125, 126, 127, 128, 129, 130, 131, 132, 133, 134, 135, 136, 137, 138, 139, 140, 141, 142, 143, 144, 145, 146, 147, 148] rfl (by decide +kernel)
set_option maxRecDepth 20000 in
theorem gX12_fits_X12_spellMove : GoodIn wsX12_fits (wsV RX12 214 RX12 yX12_spellMove wsX12_spellMove) := goodIn_app (goodIn_of _ (by decide +kernel)) ggX12_fits_X12_spellMove
set_option maxRecDepth 20000 in
theorem ggX12_fits_X12_isSpelled : GoodIn wsX12_fits wsX12_isSpelled := goodIn_r _ [35, 2, 19, 24, 109, 110, 111, 112, 113, 114, 115, 116, 117, 118, 119, 120, 121, 122, 123, 124, 125, 126, 127, 128, 129, 130, 131, 132, 133, 134, 135, 136, 137, 138, 139, 140, 141, 142, 143, 144, 145, 146, 147, 148] rfl (by decide +kernel)
set_option maxRecDepth 20000 in
theorem gX12_fits_X12_isSpelled : GoodIn wsX12_fits (wsV RX12 221 RX12 yX12_isSpelled wsX12_isSpelled) := goodIn_app (goodIn_of _ (by decide +kernel)) ggX12_fits_X12_isSpelled
set_option maxRecDepth 20000 in
theorem ggX12_fits_X12_behind : GoodIn wsX12_fits wsX12_behind := goodIn_r _ [39, 40, 41, 42, 43, 5, 44, 45, 1, 46, 47, 48, 49, 50, 51, 52, 53, 54, 3, 4, 6, 7, 8, 9, 10, 55, 56, 57, 58, 59, 60, 61, 62, 63, 64, 65, 66, 67, 68, 69, 70, 71, 72, 73, 74, 75, 76, 77, 78, 79, 80, 81, 82, 83, 84, 85, 86, 87, 88, 89, 90, 91, 92, 93, 94, 95, 96, 97, 98, 99, 100, 101, 102, 103, 104, 105, 106, 107, 108, 109, 110, 111, 112, 113, 114, 115, 116, 117, 118, 119, 120, 121, 122, 123, 124, 125, 126, 127, 128, 129, 130, 131, 132, 133, 134, 135, 136, 137, 138, 139, 140, 141, 142, 143, 144, 145, 146, 147, 148] rfl (by decide +kernel)
set_option maxRecDepth 20000 in
theorem gX12_fits_X12_behind : GoodIn wsX12_fits (wsV RX12 218 RX12 yX12_behind wsX12_behind) := goodIn_app (goodIn_of _ (by decide +kernel)) ggX12_fits_X12_behind
set_option maxRecDepth 20000 in
theorem ggX12_understood_X12_fits : GoodIn wsX12_understood wsX12_fits := goodIn_r _ [7, 8, 9, 10, 11, 6, 12, 13, 14, 15, 16, 17, 18, 19, 20, 21, 22, 23, 24, 25, 26, 27, 28, 29, 30, 31, 32, 33, 34, 35, 36, 37, 38, 39, 40, 41, 42, 43, 44, 45, 46, 47, 48, 49, 50, 51, 52, 53, 54, 55, 56, 57, 58, 59, 60, 61, 62, 63, 64, 65, 66, 67, 68, 69, 70, 71, 72, 73, 74, 75, 76, 77, 78, 79, 80, 81, 82, 83, 84, 85, 86, 87, 88, 89, 90, 91, 92, 93, 94, 95, 96, 97, 98, 99, 100, 101, 102, 103, 104, 105, 106, 107, 108, 109, 110, 111, 112, 113, 114, 115, 116, 117, 118, 119, 120, 121, 122, 123, 124, 125, 126, 127, 128, 129, 130, 131, 132, 133, 134, 135, 136, 137, 138, 139, 140, 141, 142, 143, 144, 145, 146, 147, 148, 149, 150, 151, 152, 153, 154] rfl (by decide +kernel)
set_option maxRecDepth 20000 in
theorem gX12_understood_X12_fits : GoodIn wsX12_understood (wsV RX12 225 RX12 yX12_fits wsX12_fits) := goodIn_app (goodIn_of _ (by decide +kernel)) ggX12_understood_X12_fits
set_option maxRecDepth 20000 in
theorem ggX12_pass_X12_sign : GoodIn wsX12_pass wsX12_sign := goodIn_r _ [6, 1, 7, 8, 9, 10, 11, 12, 13, 14, 15, 16, 17, 18, 19, 20, 21, 22, 23, 24, 25, 26, 27, 28, 29, 30, 31, 32, 33, 34, 35, 36, 37, 38, 39, 40, 41, 42, 43, 44, 45, 46, 47, 48] rfl (by decide +kernel)
set_option maxRecDepth 20000 in
theorem gX12_pass_X12_sign : GoodIn wsX12_pass (wsV RX12 235 RX12 yX12_sign wsX12_sign) := goodIn_app (goodIn_of _ (by decide +kernel)) ggX12_pass_X12_sign
set_option maxRecDepth 20000 in
theorem ggX12_manOf_X12_manOf : GoodIn wsX12_manOf wsX12_manOf := goodIn_r _ [0, 1, 2, 3] rfl (by decide +kernel)
set_option maxRecDepth 20000 in
theorem gX12_manOf_X12_manOf : GoodIn wsX12_manOf (va_wsS RX12 239 yX12_manOf wsX12_manOf) := goodIn_app (goodIn_of _ (by decide +kernel)) ggX12_manOf_X12_manOf
set_option maxRecDepth 20000 in
theorem ggX12_readRank_X12_sign : GoodIn wsX12_readRank wsX12_sign := goodIn_r _ [7, 2, 8, 9, 13, 14, 15, 16, 17, 18, 19, 20, 21, 22, 23, 24, 25, 26, 27, 28, 29, 30, 31, 32, 33, 34, 35, 36, 37, 38, 39, 40, 41, 42, 43, 44, 45, 46, 47, 48, 49, 50, 51, 52] rfl (by decide +kernel)
set_option maxRecDepth 20000 in
theorem gX12_readRank_X12_sign : GoodIn wsX12_readRank (wsV RX12 235 RX12 yX12_sign wsX12_sign) := goodIn_app (goodIn_of _ (by decide +kernel)) ggX12_readRank_X12_sign
set_option maxRecDepth 20000 in
theorem ggX12_readRank_X12_manOf : GoodIn wsX12_readRank wsX12_manOf := goodIn_r _ [12, 10, 11, 6] rfl (by decide +kernel)
set_option maxRecDepth 20000 in
theorem gX12_readRank_X12_manOf : GoodIn wsX12_readRank (va_wsS RX12 239 yX12_manOf wsX12_manOf) := goodIn_app (goodIn_of _ (by decide +kernel)) ggX12_readRank_X12_manOf
set_option maxRecDepth 20000 in
theorem ggX12_readNumber_X12_sign : GoodIn wsX12_readNumber wsX12_sign := goodIn_r _ [6, 1, 7, 8, 9, 10, 11, 12, 13, 14, 15, 16, 17, 18, 19, 20, 21, 22, 23, 24, 25, 26, 27, 28, 29, 30, 31, 32, 33, 34, 35, 36, 37, 38, 39, 40, 41, 42, 43, 44, 45, 46, 47, 48] rfl (by decide +kernel)
set_option maxRecDepth 20000 in
theorem gX12_readNumber_X12_sign : GoodIn wsX12_readNumber (wsV RX12 235 RX12 yX12_sign wsX12_sign) := goodIn_app (goodIn_of _ (by decide +kernel)) ggX12_readNumber_X12_sign
set_option maxRecDepth 20000 in
theorem ggX12_readRights_X12_sign : GoodIn wsX12_readRights wsX12_sign := goodIn_r _ [7, 2, 8, 9, 14, 15, 16, 17, 18, 19, 20, 21, 22, 23, 24, 25, 26, 27, 28, 29, 30, 31, 32, 33, 34, 35, 36, 37, 38, 39, 40, 41, 42, 43, 44, 45, 46, 47, 48, 49, 50, 51, 52, 53] rfl (by decide +kernel)
set_option maxRecDepth 20000 in
theorem gX12_readRights_X12_sign : GoodIn wsX12_readRights (wsV RX12 235 RX12 yX12_sign wsX12_sign) := goodIn_app (goodIn_of _ (by decide +kernel)) ggX12_readRights_X12_sign
set_option maxRecDepth 20000 in
theorem ggX12_readRights_X12_pass : GoodIn wsX12_readRights wsX12_pass := goodIn_r _ [13, 2, 3, 4, 5, 6, 7, 8, 9, 14, 15, 16, 17, 18, 19, 20, 21, 22, 23, 24, 25, 26, 27, 28, 29, 30, 31, 32, 33, 34, 35, 36, 37, 38, 39, 40, 41, 42, 43, 44, 45, 46, 47, 48, 49, 50, 51, 52, 53] rfl (by decide +kernel)
set_option maxRecDepth 20000 in
theorem gX12_readRights_X12_pass : GoodIn wsX12_readRights (wsV RX12 243 RX12 yX12_pass wsX12_pass) := goodIn_app (goodIn_of _ (by decide +kernel)) ggX12_readRights_X12_pass
set_option maxRecDepth 20000 in
theorem ggX12_readPassed_X12_sign : GoodIn wsX12_readPassed wsX12_sign := goodIn_r _ [7, 2, 8, 9, 14, 15, 16, 17, 18, 19, 20, 21, 22, 23, 24, 25, 26, 27, 28, 29, 30, 31, 32, 33, 34, 35, 36, 37, 38, 39, 40, 41, 42, 43, 44, 45, 46, 47, 48, 49, 50, 51, 52, 53] rfl (by decide +kernel)
set_option maxRecDepth 20000 in
theorem gX12_readPassed_X12_sign : GoodIn wsX12_readPassed (wsV RX12 235 RX12 yX12_sign wsX12_sign) := goodIn_app (goodIn_of _ (by decide +kernel)) ggX12_readPassed_X12_sign
set_option maxRecDepth 20000 in
theorem ggX12_readPassed_X12_pass : GoodIn wsX12_readPassed wsX12_pass := goodIn_r _ [13, 2, 3, 4, 5, 6, 7, 8, 9, 14, 15, 16, 17, 18, 19, 20, 21, 22, 23, 24, 25, 26, 27, 28, 29, 30, 31, 32, 33, 34, 35, 36, 37, 38, 39, 40, 41, 42, 43, 44, 45, 46, 47, 48, 49, 50, 51, 52, 53] rfl (by decide +kernel)
set_option maxRecDepth 20000 in
theorem gX12_readPassed_X12_pass : GoodIn wsX12_readPassed (wsV RX12 243 RX12 yX12_pass wsX12_pass) := goodIn_app (goodIn_of _ (by decide +kernel)) ggX12_readPassed_X12_pass
set_option maxRecDepth 20000 in
theorem ggX12_mayStand_X12_countOf : GoodIn wsX12_mayStand wsX12_countOf := goodIn_r _ [9, 1, 36, 37, 38, 39, 40, 41, 42, 43, 44, 45, 46, 47, 48, 49, 50, 51, 52, 53, 54, 55, 56, 57, 58, 59, 60, 61, 62, 63, 64, 65, 66, 67, 68, 69, 70, 71, 72, 73, 74, 75] rfl (by decide +kernel)
set_option maxRecDepth 20000 in
theorem gX12_mayStand_X12_countOf : GoodIn wsX12_mayStand (wsV RX12 247 RX12 yX12_countOf wsX12_countOf) := goodIn_app (goodIn_of _ (by decide +kernel)) ggX12_mayStand_X12_countOf
set_option maxRecDepth 20000 in
theorem ggX12_mayStand_X12_kind : GoodIn wsX12_mayStand wsX12_kind := goodIn_r _ [12] rfl (by decide +kernel)
set_option maxRecDepth 20000 in
theorem gX12_mayStand_X12_kind : GoodIn wsX12_mayStand (va_wsS RX12 136 yX12_kind wsX12_kind) := goodIn_app (goodIn_of _ (by decide +kernel)) ggX12_mayStand_X12_kind
set_option maxRecDepth 20000 in
theorem ggX12_mayStand_X12_isInCheck : GoodIn wsX12_mayStand wsX12_isInCheck := goodIn_r _ [16, 17, 18, 19, 8, 20, 1, 21, 22, 23, 24, 25, 26, 27, 28, 29, 30, 31, 32, 33, 34, 35, 36, 37, 38, 39, 40, 41, 42, 43, 44, 45, 46, 47, 48, 49, 50, 51, 52, 53, 54, 55, 56, 57, 58, 59, 60, 61, 62, 63, 64, 65, 66, 67, 68, 69, 70, 71, 72, 73, 74, 75] rfl (by decide +kernel)
set_option maxRecDepth 20000 in
theorem gX12_mayStand_X12_isInCheck : GoodIn wsX12_mayStand (wsV RX12 152 RX12 yX12_isInCheck wsX12_isInCheck) := goodIn_app (goodIn_of _ (by decide +kernel)) ggX12_mayStand_X12_isInCheck
set_option maxRecDepth 20000 in
theorem ggX12_mayStand_X12_step : GoodIn wsX12_mayStand wsX12_step := goodIn_r _ [27] rfl (by decide +kernel)
set_option maxRecDepth 20000 in
theorem gX12_mayStand_X12_step : GoodIn wsX12_mayStand (va_wsS RX12 103 yX12_step wsX12_step) := goodIn_app (goodIn_of _ (by decide +kernel)) ggX12_mayStand_X12_step
set_option maxRecDepth 20000 in
theorem ggX12_mayStand_X12_stands : GoodIn wsX12_mayStand wsX12_stands := goodIn_r _ [31, 1, 36, 37, 38, 39, 40, 41, 42, 43, 44, 45, 46, 47, 48, 49, 50, 51, 52, 53, 54, 55, 56, 57, 58, 59, 60, 61, 62, 63, 64, 65, 66, 67, 68, 69, 70, 71, 72, 73, 74, 75] rfl (by decide +kernel)
set_option maxRecDepth 20000 in
theorem gX12_mayStand_X12_stands : GoodIn wsX12_mayStand (wsV RX12 107 RX12 yX12_stands wsX12_stands) := goodIn_app (goodIn_of _ (by decide +kernel)) ggX12_mayStand_X12_stands
set_option maxRecDepth 20000 in
theorem ggX12_readPosition_X12_readRank : GoodIn wsX12_readPosition wsX12_readRank := goodIn_r _ [11, 3, 1, 12, 13, 14, 10, 15, 2, 16, 17, 18, 19, 72, 73, 74, 75, 76, 77, 78, 79, 80, 81, 82, 83, 84, 85, 86, 87, 88, 89, 90, 91, 92, 93, 94, 95, 96, 97, 98, 99, 100, 101, 102, 103, 104, 105, 106, 107, 108, 109, 110, 111] rfl (by decide +kernel)
set_option maxRecDepth 20000 in
theorem gX12_readPosition_X12_readRank : GoodIn wsX12_readPosition (wsV RX12 250 RX12 yX12_readRank wsX12_readRank) := goodIn_app (goodIn_of _ (by decide +kernel)) ggX12_readPosition_X12_readRank
set_option maxRecDepth 20000 in
theorem ggX12_readPosition_X12_pass : GoodIn wsX12_readPosition wsX12_pass := goodIn_r _ [23, 1, 12, 13, 14, 10, 15, 2, 16, 72, 73, 74, 75, 76, 77, 78, 79, 80, 81, 82, 83, 84, 85, 86, 87, 88, 89, 90, 91, 92, 93, 94, 95, 96, 97, 98, 99, 100, 101, 102, 103, 104, 105, 106, 107, 108, 109, 110, 111] rfl (by decide +kernel)
set_option maxRecDepth 20000 in
theorem gX12_readPosition_X12_pass : GoodIn wsX12_readPosition (wsV RX12 243 RX12 yX12_pass wsX12_pass) := goodIn_app (goodIn_of _ (by decide +kernel)) ggX12_readPosition_X12_pass
set_option maxRecDepth 20000 in
theorem ggX12_readPosition_X12_sign : GoodIn wsX12_readPosition wsX12_sign := goodIn_r _ [15, 1, 2, 16, 72, 73, 74, 75, 76, 77, 78, 79, 80, 81, 82, 83, 84, 85, 86, 87, 88, 89, 90, 91, 92, 93, 94, 95, 96, 97, 98, 99, 100, 101, 102, 103, 104, 105, 106, 107, 108, 109, 110, 111] rfl (by decide +kernel)
set_option maxRecDepth 20000 in
theorem gX12_readPosition_X12_sign : GoodIn wsX12_readPosition (wsV RX12 235 RX12 yX12_sign wsX12_sign) := goodIn_app (goodIn_of _ (by decide +kernel)) ggX12_readPosition_X12_sign
set_option maxRecDepth 20000 in
theorem ggX12_readPosition_X12_readRights : GoodIn wsX12_readPosition wsX12_readRights := goodIn_r _ [27, 28, 1, 12, 13, 14, 10, 15, 2, 16, 20, 21, 22, 23, 72, 73, 74, 75, 76, 77, 78, 79, 80, 81, 82, 83, 84, 85, 86, 87, 88, 89, 90, 91, 92, 93, 94, 95, 96, 97, 98, 99, 100, 101, 102, 103, 104, 105, 106, 107, 108, 109, 110, 111] rfl (by decide +kernel)
set_option maxRecDepth 20000 in
theorem gX12_readPosition_X12_readRights : GoodIn wsX12_readPosition (wsV RX12 253 RX12 yX12_readRights wsX12_readRights) := goodIn_app (goodIn_of _ (by decide +kernel)) ggX12_readPosition_X12_readRights
set_option maxRecDepth 20000 in
theorem ggX12_readPosition_X12_readPassed : GoodIn wsX12_readPosition wsX12_readPassed := goodIn_r _ [32, 33, 1, 12, 13, 14, 10, 15, 2, 16, 20, 21, 22, 23, 72, 73, 74, 75, 76, 77, 78, 79, 80, 81, 82, 83, 84, 85, 86, 87, 88, 89, 90, 91, 92, 93, 94, 95, 96, 97, 98, 99, 100, 101, 102, 103, 104, 105, 106, 107, 108, 109, 110, 111] rfl (by decide +kernel)
set_option maxRecDepth 20000 in
theorem gX12_readPosition_X12_readPassed : GoodIn wsX12_readPosition (wsV RX12 257 RX12 yX12_readPassed wsX12_readPassed) := goodIn_app (goodIn_of _ (by decide +kernel)) ggX12_readPosition_X12_readPassed
set_option maxRecDepth 20000 in
theorem ggX12_readPosition_X12_readNumber : GoodIn wsX12_readPosition wsX12_readNumber := goodIn_r _ [37, 1, 12, 13, 14, 10, 15, 2, 16, 72, 73, 74, 75, 76, 77, 78, 79, 80, 81, 82, 83, 84, 85, 86, 87, 88, 89, 90, 91, 92, 93, 94, 95, 96, 97, 98, 99, 100, 101, 102, 103, 104, 105, 106, 107, 108, 109, 110, 111] rfl (by decide +kernel)
set_option maxRecDepth 20000 in
theorem gX12_readPosition_X12_readNumber : GoodIn wsX12_readPosition (wsV RX12 260 RX12 yX12_readNumber wsX12_readNumber) := goodIn_app (goodIn_of _ (by decide +kernel)) ggX12_readPosition_X12_readNumber
set_option maxRecDepth 20000 in
theorem ggX12_readPosition_X12_mayStand : GoodIn wsX12_readPosition wsX12_mayStand := goodIn_r _ [41, 3, 4, 28, 33, 42, 43, 44, 10, 45, 46, 47, 48, 49, 50, 51, 52, 53, 54, 55, 56, 57, 58, 59, 60, 61, 62, 63, 64, 65, 66, 67, 68, 69, 70, 71, 72, 73, 74, 75, 76, 77, 78, 79, 80, 81, 82, 83, 84, 85, 86, 87, 88, 89, 90, 91, 92, 93, 94, 95, 96, 97, 98, 99, 100, 101, 102, 103, 104, 105, 106, 107, 108, 109, 110, 111] rfl (by decide +kernel)
set_option maxRecDepth 20000 in
theorem gX12_readPosition_X12_mayStand : GoodIn wsX12_readPosition (wsV RX12 264 RX12 yX12_mayStand wsX12_mayStand) := goodIn_app (goodIn_of _ (by decide +kernel)) ggX12_readPosition_X12_mayStand
set_option maxRecDepth 20000 in
theorem ggX12_readTag_X12_blanks : GoodIn wsX12_readTag wsX12_blanks := goodIn_r _ [12, 1, 4, 13, 114, 115, 116, 117, 118, 119, 120, 121, 122, 123, 124, 125, 126, 127, 128, 129, 130, 131, 132, 133, 134, 135, 136, 137, 138, 139, 140, 141, 142, 143, 144, 145, 146, 147, 148, 149, 150, 151, 152, 153] rfl (by decide +kernel)
set_option maxRecDepth 20000 in
theorem gX12_readTag_X12_blanks : GoodIn wsX12_readTag (wsV RX12 273 RX12 yX12_blanks wsX12_blanks) := goodIn_app (goodIn_of _ (by decide +kernel)) ggX12_readTag_X12_blanks
set_option maxRecDepth 20000 in
theorem ggX12_readTag_X12_look : GoodIn wsX12_readTag wsX12_look := goodIn_r _ [17, 1, 4, 13, 114, 115, 116, 117, 118, 119, 120, 121, 122, 123, 124, 125, 126, 127, 128, 129, 130, 131, 132, 133, 134, 135, 136, 137, 138, 139, 140, 141, 142, 143, 144, 145, 146, 147, 148, 149, 150, 151, 152, 153] rfl (by decide +kernel)
set_option maxRecDepth 20000 in
theorem gX12_readTag_X12_look : GoodIn wsX12_readTag (wsV RX12 276 RX12 yX12_look wsX12_look) := goodIn_app (goodIn_of _ (by decide +kernel)) ggX12_readTag_X12_look
set_option maxRecDepth 20000 in
theorem ggX12_readTag_X12_isLetter : GoodIn wsX12_readTag wsX12_isLetter := goodIn_r _ [20] rfl (by decide +kernel)
set_option maxRecDepth 20000 in
theorem gX12_readTag_X12_isLetter : GoodIn wsX12_readTag (va_wsS RX12 279 yX12_isLetter wsX12_isLetter) := goodIn_app (goodIn_of _ (by decide +kernel)) ggX12_readTag_X12_isLetter
set_option maxRecDepth 20000 in
theorem ggX12_readTag_X12_isDigit : GoodIn wsX12_readTag wsX12_isDigit := goodIn_r _ [23] rfl (by decide +kernel)
set_option maxRecDepth 20000 in
theorem gX12_readTag_X12_isDigit : GoodIn wsX12_readTag (va_wsS RX12 282 yX12_isDigit wsX12_isDigit) := goodIn_app (goodIn_of _ (by decide +kernel)) ggX12_readTag_X12_isDigit
set_option maxRecDepth 20000 in
theorem ggX12_readTag_X12_fault : GoodIn wsX12_readTag wsX12_fault := goodIn_r _ [26] rfl (by decide +kernel)
set_option maxRecDepth 20000 in
theorem gX12_readTag_X12_fault : GoodIn wsX12_readTag (va_wsS RX12 285 yX12_fault wsX12_fault) := goodIn_app (goodIn_of _ (by decide +kernel)) ggX12_readTag_X12_fault
set_option maxRecDepth 20000 in
theorem ggX12_readTag_X12_isNameThere : GoodIn wsX12_readTag wsX12_isNameThere := goodIn_r _ [30, 6, 3, 114, 115, 116, 117, 118, 119, 120, 121, 122, 123, 124, 125, 126, 127, 128, 129, 130, 131, 132, 133, 134, 135, 136, 137, 138, 139, 140, 141, 142, 143, 144, 145, 146, 147, 148, 149, 150, 151, 152, 153] rfl (by decide +kernel)
set_option maxRecDepth 20000 in
theorem gX12_readTag_X12_isNameThere : GoodIn wsX12_readTag (wsV RX12 289 RX12 yX12_isNameThere wsX12_isNameThere) := goodIn_app (goodIn_of _ (by decide +kernel)) ggX12_readTag_X12_isNameThere
set_option maxRecDepth 20000 in
theorem ggX12_readTag_X12_isTag : GoodIn wsX12_readTag wsX12_isTag := goodIn_r _ [34, 6, 3, 114, 115, 116, 117, 118, 119, 120, 121, 122, 123, 124, 125, 126, 127, 128, 129, 130, 131, 132, 133, 134, 135, 136, 137, 138, 139, 140, 141, 142, 143, 144, 145, 146, 147, 148, 149, 150, 151, 152, 153] rfl (by decide +kernel)
set_option maxRecDepth 20000 in
theorem gX12_readTag_X12_isTag : GoodIn wsX12_readTag (wsV RX12 292 RX12 yX12_isTag wsX12_isTag) := goodIn_app (goodIn_of _ (by decide +kernel)) ggX12_readTag_X12_isTag
set_option maxRecDepth 20000 in
theorem ggX12_readTag_X12_readPosition : GoodIn wsX12_readTag wsX12_readPosition := goodIn_r _ [38, 39, 40, 41, 42, 43, 44, 45, 46, 47, 11, 48, 49, 50, 51, 52, 5, 53, 54, 55, 56, 57, 58, 59, 60, 61, 62, 63, 64, 65, 66, 67, 68, 69, 70, 71, 72, 73, 74, 75, 76, 77, 78, 79, 80, 81, 82, 83, 84, 85, 86, 87, 88, 89, 90, 91, 92, 93, 94, 95, 96, 97, 98, 99, 100, 101, 102, 103, 104, 105, 106, 107, 114, 115, 116, 117, 118, 119, 120, 121, 122, 123, 124, 125, 126, 127, 128, 129, 130, 131, 132, 133, 134, 135, 136, 137, 138, 139, 140, 141, 142, 143, 144, 145, 146, 147, 148, 149, 150, 151, 152, 153] rfl (by decide +kernel)
set_option maxRecDepth 20000 in
theorem gX12_readTag_X12_readPosition : GoodIn wsX12_readTag (wsV RX12 296 RX12 yX12_readPosition wsX12_readPosition) := goodIn_app (goodIn_of _ (by decide +kernel)) ggX12_readTag_X12_readPosition
set_option maxRecDepth 20000 in
theorem ggX12_readTag_X12_start : GoodIn wsX12_readTag wsX12_start := goodIn_r _ [111, 112, 41, 113, 42, 64, 69, 43, 44, 114, 115, 116, 117, 118, 119, 120, 121, 122, 123, 124, 125, 126, 127, 128, 129, 130, 131, 132, 133, 134, 135, 136, 137, 138, 139, 140, 141, 142, 143, 144, 145, 146, 147, 148, 149, 150, 151, 152, 153] rfl (by decide +kernel)
set_option maxRecDepth 20000 in
theorem gX12_readTag_X12_start : GoodIn wsX12_readTag (wsV RX12 182 RX12 yX12_start wsX12_start) := goodIn_app (goodIn_of _ (by decide +kernel)) ggX12_readTag_X12_start
set_option maxRecDepth 20000 in
theorem ggX12_readRemarks_X12_blanks : GoodIn wsX12_readRemarks wsX12_blanks := goodIn_r _ [10, 1, 2, 5, 18, 19, 20, 21, 22, 23, 24, 25, 26, 27, 28, 29, 30, 31, 32, 33, 34, 35, 36, 37, 38, 39, 40, 41, 42, 43, 44, 45, 46, 47, 48, 49, 50, 51, 52, 53, 54, 55, 56, 57] rfl (by decide +kernel)
set_option maxRecDepth 20000 in
theorem gX12_readRemarks_X12_blanks : GoodIn wsX12_readRemarks (wsV RX12 273 RX12 yX12_blanks wsX12_blanks) := goodIn_app (goodIn_of _ (by decide +kernel)) ggX12_readRemarks_X12_blanks
set_option maxRecDepth 20000 in
theorem ggX12_readRemarks_X12_look : GoodIn wsX12_readRemarks wsX12_look := goodIn_r _ [14, 1, 2, 5, 18, 19, 20, 21, 22, 23, 24, 25, 26, 27, 28, 29, 30, 31, 32, 33, 34, 35, 36, 37, 38, 39, 40, 41, 42, 43, 44, 45, 46, 47, 48, 49, 50, 51, 52, 53, 54, 55, 56, 57] rfl (by decide +kernel)
set_option maxRecDepth 20000 in
theorem gX12_readRemarks_X12_look : GoodIn wsX12_readRemarks (wsV RX12 276 RX12 yX12_look wsX12_look) := goodIn_app (goodIn_of _ (by decide +kernel)) ggX12_readRemarks_X12_look
set_option maxRecDepth 20000 in
theorem ggX12_readRemarks_X12_fault : GoodIn wsX12_readRemarks wsX12_fault := goodIn_r _ [17] rfl (by decide +kernel)
set_option maxRecDepth 20000 in
theorem gX12_readRemarks_X12_fault : GoodIn wsX12_readRemarks (va_wsS RX12 285 yX12_fault wsX12_fault) := goodIn_app (goodIn_of _ (by decide +kernel)) ggX12_readRemarks_X12_fault
set_option maxRecDepth 20000 in
theorem ggX12_resultHere_X12_look : GoodIn wsX12_resultHere wsX12_look := goodIn_r _ [8, 1, 2, 3, 13, 14, 15, 16, 17, 18, 19, 20, 21, 22, 23, 24, 25, 26, 27, 28, 29, 30, 31, 32, 33, 34, 35, 36, 37, 38, 39, 40, 41, 42, 43, 44, 45, 46, 47, 48, 49, 50, 51, 52] rfl (by decide +kernel)
set_option maxRecDepth 20000 in
theorem gX12_resultHere_X12_look : GoodIn wsX12_resultHere (wsV RX12 276 RX12 yX12_look wsX12_look) := goodIn_app (goodIn_of _ (by decide +kernel)) ggX12_resultHere_X12_look
set_option maxRecDepth 20000 in
theorem ggX12_resultHere_X12_goesOnWith : GoodIn wsX12_resultHere wsX12_goesOnWith := goodIn_r _ [12, 1, 2, 3, 13, 14, 15, 16, 17, 18, 19, 20, 21, 22, 23, 24, 25, 26, 27, 28, 29, 30, 31, 32, 33, 34, 35, 36, 37, 38, 39, 40, 41, 42, 43, 44, 45, 46, 47, 48, 49, 50, 51, 52] rfl (by decide +kernel)
set_option maxRecDepth 20000 in
theorem gX12_resultHere_X12_goesOnWith : GoodIn wsX12_resultHere (wsV RX12 299 RX12 yX12_goesOnWith wsX12_goesOnWith) := goodIn_app (goodIn_of _ (by decide +kernel)) ggX12_resultHere_X12_goesOnWith
set_option maxRecDepth 20000 in
theorem ggX12_readMarks_X12_blanks : GoodIn wsX12_readMarks wsX12_blanks := goodIn_r _ [7, 1, 8, 9, 25, 26, 27, 28, 29, 30, 31, 32, 33, 34, 35, 36, 37, 38, 39, 40, 41, 42, 43, 44, 45, 46, 47, 48, 49, 50, 51, 52, 53, 54, 55, 56, 57, 58, 59, 60, 61, 62, 63, 64] rfl (by decide +kernel)
set_option maxRecDepth 20000 in
theorem gX12_readMarks_X12_blanks : GoodIn wsX12_readMarks (wsV RX12 273 RX12 yX12_blanks wsX12_blanks) := goodIn_app (goodIn_of _ (by decide +kernel)) ggX12_readMarks_X12_blanks
set_option maxRecDepth 20000 in
theorem ggX12_readMarks_X12_look : GoodIn wsX12_readMarks wsX12_look := goodIn_r _ [13, 1, 8, 9, 25, 26, 27, 28, 29, 30, 31, 32, 33, 34, 35, 36, 37, 38, 39, 40, 41, 42, 43, 44, 45, 46, 47, 48, 49, 50, 51, 52, 53, 54, 55, 56, 57, 58, 59, 60, 61, 62, 63, 64] rfl (by decide +kernel)
set_option maxRecDepth 20000 in
theorem gX12_readMarks_X12_look : GoodIn wsX12_readMarks (wsV RX12 276 RX12 yX12_look wsX12_look) := goodIn_app (goodIn_of _ (by decide +kernel)) ggX12_readMarks_X12_look
set_option maxRecDepth 20000 in
theorem ggX12_readMarks_X12_addMarkTo : GoodIn wsX12_readMarks wsX12_addMarkTo := goodIn_r _ [17, 18, 2, 25, 26, 27, 28, 29, 30, 31, 32, 33, 34, 35, 36, 37, 38, 39, 40, 41, 42, 43, 44, 45, 46, 47, 48, 49, 50, 51, 52, 53, 54, 55, 56, 57, 58, 59, 60, 61, 62, 63, 64] rfl (by decide +kernel)
set_option maxRecDepth 20000 in
theorem gX12_readMarks_X12_addMarkTo : GoodIn wsX12_readMarks (wsV RX12 303 RX12 yX12_addMarkTo wsX12_addMarkTo) := goodIn_app (goodIn_of _ (by decide +kernel)) ggX12_readMarks_X12_addMarkTo
set_option maxRecDepth 20000 in
theorem ggX12_readMarks_X12_isDigit : GoodIn wsX12_readMarks wsX12_isDigit := goodIn_r _ [21] rfl (by decide +kernel)
set_option maxRecDepth 20000 in
theorem gX12_readMarks_X12_isDigit : GoodIn wsX12_readMarks (va_wsS RX12 282 yX12_isDigit wsX12_isDigit) := goodIn_app (goodIn_of _ (by decide +kernel)) ggX12_readMarks_X12_isDigit
set_option maxRecDepth 20000 in
theorem ggX12_readMarks_X12_fault : GoodIn wsX12_readMarks wsX12_fault := goodIn_r _ [24] rfl (by decide +kernel)
set_option maxRecDepth 20000 in
theorem gX12_readMarks_X12_fault : GoodIn wsX12_readMarks (va_wsS RX12 285 yX12_fault wsX12_fault) := goodIn_app (goodIn_of _ (by decide +kernel)) ggX12_readMarks_X12_fault
set_option maxRecDepth 20000 in
theorem ggX12_readMoveNumber_X12_look : GoodIn wsX12_readMoveNumber wsX12_look := goodIn_r _ [7, 1, 8, 9, 20, 21, 22, 23, 24, 25, 26, 27, 28, 29, 30, 31, 32, 33, 34, 35, 36, 37, 38, 39, 40, 41, 42, 43, 44, 45, 46, 47, 48, 49, 50, 51, 52, 53, 54, 55, 56, 57, 58, 59] rfl (by decide +kernel)
set_option maxRecDepth 20000 in
theorem gX12_readMoveNumber_X12_look : GoodIn wsX12_readMoveNumber (wsV RX12 276 RX12 yX12_look wsX12_look) := goodIn_app (goodIn_of _ (by decide +kernel)) ggX12_readMoveNumber_X12_look
set_option maxRecDepth 20000 in
theorem ggX12_readMoveNumber_X12_isDigit : GoodIn wsX12_readMoveNumber wsX12_isDigit := goodIn_r _ [12] rfl (by decide +kernel)
set_option maxRecDepth 20000 in
theorem gX12_readMoveNumber_X12_isDigit : GoodIn wsX12_readMoveNumber (va_wsS RX12 282 yX12_isDigit wsX12_isDigit) := goodIn_app (goodIn_of _ (by decide +kernel)) ggX12_readMoveNumber_X12_isDigit
set_option maxRecDepth 20000 in
theorem ggX12_readMoveNumber_X12_fault : GoodIn wsX12_readMoveNumber wsX12_fault := goodIn_r _ [15] rfl (by decide +kernel)
set_option maxRecDepth 20000 in
theorem gX12_readMoveNumber_X12_fault : GoodIn wsX12_readMoveNumber (va_wsS RX12 285 yX12_fault wsX12_fault) := goodIn_app (goodIn_of _ (by decide +kernel)) ggX12_readMoveNumber_X12_fault
set_option maxRecDepth 20000 in
theorem ggX12_readMoveNumber_X12_blanks : GoodIn wsX12_readMoveNumber wsX12_blanks := goodIn_r _ [19, 1, 8, 9, 20, 21, 22, 23, 24, 25, 26, 27, 28, 29, 30, 31, 32, 33, 34, 35, 36, 37, 38, 39, 40, 41, 42, 43, 44, 45, 46, 47, 48, 49, 50, 51, 52, 53, 54, 55, 56, 57, 58, 59] rfl (by decide +kernel)
set_option maxRecDepth 20000 in
theorem gX12_readMoveNumber_X12_blanks : GoodIn wsX12_readMoveNumber (wsV RX12 273 RX12 yX12_blanks wsX12_blanks) := goodIn_app (goodIn_of _ (by decide +kernel)) ggX12_readMoveNumber_X12_blanks
set_option maxRecDepth 20000 in
theorem ggX12_readMove_X12_look : GoodIn wsX12_readMove wsX12_look := goodIn_r _ [7, 1, 8, 9, 153, 154, 155, 156, 157, 158, 159, 160, 161, 162, 163, 164, 165, 166, 167, 168, 169, 170, 171, 172, 173, 174, 175, 176, 177, 178, 179, 180, 181, 182, 183, 184, 185, 186, 187, 188, 189, 190, 191, 192] rfl (by decide +kernel)
set_option maxRecDepth 20000 in
theorem gX12_readMove_X12_look : GoodIn wsX12_readMove (wsV RX12 276 RX12 yX12_look wsX12_look) := goodIn_app (goodIn_of _ (by decide +kernel)) ggX12_readMove_X12_look
set_option maxRecDepth 20000 in
theorem ggX12_readMove_X12_isLetter : GoodIn wsX12_readMove wsX12_isLetter := goodIn_r _ [12] rfl (by decide +kernel)
set_option maxRecDepth 20000 in
theorem gX12_readMove_X12_isLetter : GoodIn wsX12_readMove (va_wsS RX12 279 yX12_isLetter wsX12_isLetter) := goodIn_app (goodIn_of _ (by decide +kernel)) ggX12_readMove_X12_isLetter
set_option maxRecDepth 20000 in
theorem ggX12_readMove_X12_fault : GoodIn wsX12_readMove wsX12_fault := goodIn_r _ [15] rfl (by decide +kernel)
set_option maxRecDepth 20000 in
theorem gX12_readMove_X12_fault : GoodIn wsX12_readMove (va_wsS RX12 285 yX12_fault wsX12_fault) := goodIn_app (goodIn_of _ (by decide +kernel)) ggX12_readMove_X12_fault
set_option maxRecDepth 20000 in
theorem ggX12_readMove_X12_isDigit : GoodIn wsX12_readMove wsX12_isDigit := goodIn_r _ [18] rfl (by decide +kernel)
set_option maxRecDepth 20000 in
theorem gX12_readMove_X12_isDigit : GoodIn wsX12_readMove (va_wsS RX12 282 yX12_isDigit wsX12_isDigit) := goodIn_app (goodIn_of _ (by decide +kernel)) ggX12_readMove_X12_isDigit
set_option maxRecDepth 20000 in
theorem ggX12_readMove_X12_understood : GoodIn wsX12_readMove wsX12_understood := goodIn_r _ [22, 23, 24, 25, 26, 27, 6, 28, 29, 9, 30, 31, 32, 33, 34, 35, 36, 37, 38, 39, 40, 41, 42, 43, 44, 45, 46, 47, 48, 49, 50, 51, 52, 53, 54, 55, 56, 57, 58, 59, 60, 61, 62, 63, 64, 65, 66, 67, 68, 69, 70, 71, 72, 73, 74, 75, 76, 77, 78, 79, 80, 81, 82, 83, 84, 85, 86, 87, 88, 89, 90, 91, 92, 93, 94, 95, 96, 97, 98, 99, 100, 101, 102, 103, 104, 105, 106, 107, 108, 109, 110, 111, 112, 113, 114, 115, 116, 117, 118, 119, 120, 121, 122, 123, 124, 125, 126, 127, 128, 129, 130, 131, 132, 133, 134, 153, 154, 155, 156, 157, 158, 159, 160, 161, 162, 163, 164, 165, 166, 167, 168, 169, 170, 171, 172, 173, 174, 175, 176, 177, 178, 179, 180, 181, 182, 183, 184, 185, 186, 187, 188, 189, 190, 191, 192] rfl (by decide +kernel)
set_option maxRecDepth 20000 in
theorem gX12_readMove_X12_understood : GoodIn wsX12_readMove (wsV RX12 307 RX12 yX12_understood wsX12_understood) := goodIn_app (goodIn_of _ (by decide +kernel)) ggX12_readMove_X12_understood
set_option maxRecDepth 20000 in
theorem ggX12_readMove_X12_childWith : GoodIn wsX12_readMove wsX12_childWith := goodIn_r _ [138, 139, 140, 141, 153, 154, 155, 156, 157, 158, 159, 160, 161, 162, 163, 164, 165, 166, 167, 168, 169, 170, 171, 172, 173, 174, 175, 176, 177, 178, 179, 180, 181, 182, 183, 184, 185, 186, 187, 188, 189, 190, 191, 192] rfl (by decide +kernel)
set_option maxRecDepth 20000 in
theorem gX12_readMove_X12_childWith : GoodIn wsX12_readMove (wsV RX12 310 RX12 yX12_childWith wsX12_childWith) := goodIn_app (goodIn_of _ (by decide +kernel)) ggX12_readMove_X12_childWith
