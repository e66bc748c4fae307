section
set_option maxRecDepth 20000 in
theorem ggX12_spellWhole_X12_spell : GoodIn wsX12_spellWhole wsX12_spell := goodIn_r2 cbX12_spellWhole_f _ [(2, 3), (2, 4), (1, 19), (6, 0), (6, 1), (6, 2), (6, 3), (6, 4), (6, 5), (6, 6), (6, 7), (6, 8), (6, 9), (6, 10), (6, 11), (6, 12), (6, 13), (6, 14), (6, 15), (6, 16), (6, 17), (6, 18), (6, 19), (6, 20), (6, 21), (6, 22), (6, 23), (6, 24), (6, 25), (6, 26), (6, 27), (6, 28), (6, 29), (6, 30), (6, 31), (6, 32), (6, 33), (6, 34), (6, 35), (6, 36), (6, 37), (6, 38), (6, 39)] rfl (by decide +kernel)
set_option maxRecDepth 20000 in
theorem gX12_spellWhole_X12_spell : GoodIn wsX12_spellWhole (wsV RX12 194 RX12 yX12_spell wsX12_spell) := goodIn_app (goodIn_of _ (by decide +kernel)) ggX12_spellWhole_X12_spell
set_option maxRecDepth 20000 in
theorem ggX12_fits_X12_kind : GoodIn wsX12_fits wsX12_kind := goodIn_r _ [6] rfl (by decide +kernel)
set_option maxRecDepth 20000 in
theorem gX12_fits_X12_kind : GoodIn wsX12_fits (va_wsS RX12 136 yX12_kind wsX12_kind) := goodIn_app (goodIn_of _ (by decide +kernel)) ggX12_fits_X12_kind
set_option maxRecDepth 20000 in
theorem ggX12_fits_X12_isTaking : GoodIn wsX12_fits wsX12_isTaking := goodIn_r2 cbX12_fits_f _ [(1, 9), (1, 0), (1, 2), (1, 3), (1, 4), (1, 5), (6, 0), (6, 1), (6, 2), (6, 3), (6, 4), (6, 5), (6, 6), (6, 7), (6, 8), (6, 9), (6, 10), (6, 11), (6, 12), (6, 13), (6, 14), (6, 15), (6, 16), (6, 17), (6, 18), (6, 19), (6, 20), (6, 21), (6, 22), (6, 23), (6, 24), (6, 25), (6, 26), (6, 27), (6, 28), (6, 29), (6, 30), (6, 31), (6, 32), (6, 33), (6, 34), (6, 35), (6, 36), (6, 37), (6, 38), (6, 39)] rfl (by decide +kernel)
set_option maxRecDepth 20000 in
theorem gX12_fits_X12_isTaking : GoodIn wsX12_fits (wsV RX12 139 RX12 yX12_isTaking wsX12_isTaking) := goodIn_app (goodIn_of _ (by decide +kernel)) ggX12_fits_X12_isTaking
set_option maxRecDepth 20000 in
theorem ggX12_fits_X12_isCastling : GoodIn wsX12_fits wsX12_isCastling := goodIn_r2 cbX12_fits_f _ [(1, 13), (1, 0), (1, 2), (1, 3), (1, 4), (1, 5), (6, 0), (6, 1), (6, 2), (6, 3), (6, 4), (6, 5), (6, 6), (6, 7), (6, 8), (6, 9), (6, 10), (6, 11), (6, 12), (6, 13), (6, 14), (6, 15), (6, 16), (6, 17), (6, 18), (6, 19), (6, 20), (6, 21), (6, 22), (6, 23), (6, 24), (6, 25), (6, 26), (6, 27), (6, 28), (6, 29), (6, 30), (6, 31), (6, 32), (6, 33), (6, 34), (6, 35), (6, 36), (6, 37), (6, 38), (6, 39)] rfl (by decide +kernel)
set_option maxRecDepth 20000 in
theorem gX12_fits_X12_isCastling : GoodIn wsX12_fits (wsV RX12 198 RX12 yX12_isCastling wsX12_isCastling) := goodIn_app (goodIn_of _ (by decide +kernel)) ggX12_fits_X12_isCastling
set_option maxRecDepth 20000 in
theorem ggX12_fits_X12_spellMove : GoodIn wsX12_fits wsX12_spellMove := goodIn_r2 cbX12_fits_f _ [(1, 17), (1, 18), (1, 0), (1, 10), (1, 11), (1, 12), (1, 4), (1, 13), (1, 2), (1, 3), (1, 5), (1, 19), (1, 20), (1, 21), (1, 22), (1, 23), (2, 0), (2, 1), (2, 2), (2, 3), (2, 4), (2, 5), (2, 6), (6, 0), (6, 1), (6, 2), (6, 3), (6, 4), (6, 5), (6, 6), (6, 7), (6, 8), (6, 9), (6, 10), (6, 11), (6, 12), (6, 13), (6, 14), (6, 15), (6, 16), (6, 17), (6, 18), (6, 19), (6, 20), (6, 21), (6, 22), (6, 23), (6, 24), (6, 25), (6, 26), (6, 27), (6, 28), (6, 29), (6, 30), (6, 31), (6, 32), (6, 33), (6, 34), (6, 35), (6, 36), (6, 37), (6, 38), (6, 39)] rfl (by decide +kernel)
set_option maxRecDepth 20000 in
theorem gX12_fits_X12_spellMove : GoodIn wsX12_fits (wsV RX12 214 RX12 yX12_spellMove wsX12_spellMove) := goodIn_app (goodIn_of _ (by decide +kernel)) ggX12_fits_X12_spellMove
set_option maxRecDepth 20000 in
theorem ggX12_fits_X12_isSpelled : GoodIn wsX12_fits wsX12_isSpelled := goodIn_r2 cbX12_fits_f _ [(2, 10), (1, 1), (1, 18), (1, 23), (6, 0), (6, 1), (6, 2), (6, 3), (6, 4), (6, 5), (6, 6), (6, 7), (6, 8), (6, 9), (6, 10), (6, 11), (6, 12), (6, 13), (6, 14), (6, 15), (6, 16), (6, 17), (6, 18), (6, 19), (6, 20), (6, 21), (6, 22), (6, 23), (6, 24), (6, 25), (6, 26), (6, 27), (6, 28), (6, 29), (6, 30), (6, 31), (6, 32), (6, 33), (6, 34), (6, 35), (6, 36), (6, 37), (6, 38), (6, 39)] rfl (by decide +kernel)
set_option maxRecDepth 20000 in
theorem gX12_fits_X12_isSpelled : GoodIn wsX12_fits (wsV RX12 221 RX12 yX12_isSpelled wsX12_isSpelled) := goodIn_app (goodIn_of _ (by decide +kernel)) ggX12_fits_X12_isSpelled
set_option maxRecDepth 20000 in
theorem ggX12_fits_X12_behind : GoodIn wsX12_fits wsX12_behind := goodIn_r2 cbX12_fits_f _ [(2, 14), (2, 15), (2, 16), (2, 17), (2, 18), (1, 4), (2, 19), (2, 20), (1, 0), (2, 21), (2, 22), (2, 23), (3, 0), (3, 1), (3, 2), (3, 3), (3, 4), (3, 5), (1, 2), (1, 3), (1, 5), (1, 6), (1, 7), (1, 8), (1, 9), (3, 6), (3, 7), (3, 8), (3, 9), (3, 10), (3, 11), (3, 12), (3, 13), (3, 14), (3, 15), (3, 16), (3, 17), (3, 18), (3, 19), (3, 20), (3, 21), (3, 22), (3, 23), (4, 0), (4, 1), (4, 2), (4, 3), (4, 4), (4, 5), (4, 6), (4, 7), (4, 8), (4, 9), (4, 10), (4, 11), (4, 12), (4, 13), (4, 14), (4, 15), (4, 16), (4, 17), (4, 18), (4, 19), (4, 20), (4, 21), (4, 22), (4, 23), (5, 0), (5, 1), (5, 2), (5, 3), (5, 4), (5, 5), (5, 6), (5, 7), (5, 8), (5, 9), (5, 10), (5, 11), (6, 0), (6, 1), (6, 2), (6, 3), (6, 4), (6, 5), (6, 6), (6, 7), (6, 8), (6, 9), (6, 10), (6, 11), (6, 12), (6, 13), (6, 14), (6, 15), (6, 16), (6, 17), (6, 18), (6, 19), (6, 20), (6, 21), (6, 22), (6, 23), (6, 24), (6, 25), (6, 26), (6, 27), (6, 28), (6, 29), (6, 30), (6, 31), (6, 32), (6, 33), (6, 34), (6, 35), (6, 36), (6, 37), (6, 38), (6, 39)] rfl (by decide +kernel)
set_option maxRecDepth 20000 in
theorem gX12_fits_X12_behind : GoodIn wsX12_fits (wsV RX12 218 RX12 yX12_behind wsX12_behind) := goodIn_app (goodIn_of _ (by decide +kernel)) ggX12_fits_X12_behind
set_option maxRecDepth 20000 in
theorem ggX12_understood_X12_fits : GoodIn wsX12_understood wsX12_fits := goodIn_r2 cbX12_understood_f _ [(1, 6), (1, 7), (1, 8), (1, 9), (1, 10), (1, 5), (1, 11), (1, 12), (1, 13), (1, 14), (1, 15), (1, 16), (1, 17), (1, 18), (1, 19), (1, 20), (1, 21), (1, 22), (1, 23), (2, 0), (2, 1), (2, 2), (2, 3), (2, 4), (2, 5), (2, 6), (2, 7), (2, 8), (2, 9), (2, 10), (2, 11), (2, 12), (2, 13), (2, 14), (2, 15), (2, 16), (2, 17), (2, 18), (2, 19), (2, 20), (2, 21), (2, 22), (2, 23), (3, 0), (3, 1), (3, 2), (3, 3), (3, 4), (3, 5), (3, 6), (3, 7), (3, 8), (3, 9), (3, 10), (3, 11), (3, 12), (3, 13), (3, 14), (3, 15), (3, 16), (3, 17), (3, 18), (3, 19), (3, 20), (3, 21), (3, 22), (3, 23), (4, 0), (4, 1), (4, 2), (4, 3), (4, 4), (4, 5), (4, 6), (4, 7), (4, 8), (4, 9), (4, 10), (4, 11), (4, 12), (4, 13), (4, 14), (4, 15), (4, 16), (4, 17), (4, 18), (4, 19), (4, 20), (4, 21), (4, 22), (4, 23), (5, 0), (5, 1), (5, 2), (5, 3), (5, 4), (5, 5), (5, 6), (5, 7), (5, 8), (5, 9), (5, 10), (5, 11), (5, 12), (5, 13), (5, 14), (5, 15), (5, 16), (5, 17), (6, 0), (6, 1), (6, 2), (6, 3), (6, 4), (6, 5), (6, 6), (6, 7), (6, 8), (6, 9), (6, 10), (6, 11), (6, 12), (6, 13), (6, 14), (6, 15), (6, 16), (6, 17), (6, 18), (6, 19), (6, 20), (6, 21), (6, 22), (6, 23), (6, 24), (6, 25), (6, 26), (6, 27), (6, 28), (6, 29), (6, 30), (6, 31), (6, 32), (6, 33), (6, 34), (6, 35), (6, 36), (6, 37), (6, 38), (6, 39)] rfl (by decide +kernel)
set_option maxRecDepth 20000 in
theorem gX12_understood_X12_fits : GoodIn wsX12_understood (wsV RX12 225 RX12 yX12_fits wsX12_fits) := goodIn_app (goodIn_of _ (by decide +kernel)) ggX12_understood_X12_fits
set_option maxRecDepth 20000 in
theorem ggX12_pass_X12_sign : GoodIn wsX12_pass wsX12_sign := goodIn_r _ [6, 1, 7, 8, 9, 10, 11, 12, 13, 14, 15, 16, 17, 18, 19, 20, 21, 22, 23, 24, 25, 26, 27, 28, 29, 30, 31, 32, 33, 34, 35, 36, 37, 38, 39, 40, 41, 42, 43, 44, 45, 46, 47, 48] rfl (by decide +kernel)
set_option maxRecDepth 20000 in
theorem gX12_pass_X12_sign : GoodIn wsX12_pass (wsV RX12 235 RX12 yX12_sign wsX12_sign) := goodIn_app (goodIn_of _ (by decide +kernel)) ggX12_pass_X12_sign
set_option maxRecDepth 20000 in
theorem ggX12_manOf_X12_manOf : GoodIn wsX12_manOf wsX12_manOf := goodIn_r _ [0, 1, 2, 3] rfl (by decide +kernel)
set_option maxRecDepth 20000 in
theorem gX12_manOf_X12_manOf : GoodIn wsX12_manOf (va_wsS RX12 239 yX12_manOf wsX12_manOf) := goodIn_app (goodIn_of _ (by decide +kernel)) ggX12_manOf_X12_manOf
set_option maxRecDepth 20000 in
theorem ggX12_readRank_X12_sign : GoodIn wsX12_readRank wsX12_sign := goodIn_r _ [7, 2, 8, 9, 13, 14, 15, 16, 17, 18, 19, 20, 21, 22, 23, 24, 25, 26, 27, 28, 29, 30, 31, 32, 33, 34, 35, 36, 37, 38, 39, 40, 41, 42, 43, 44, 45, 46, 47, 48, 49, 50, 51, 52] rfl (by decide +kernel)
set_option maxRecDepth 20000 in
theorem gX12_readRank_X12_sign : GoodIn wsX12_readRank (wsV RX12 235 RX12 yX12_sign wsX12_sign) := goodIn_app (goodIn_of _ (by decide +kernel)) ggX12_readRank_X12_sign
set_option maxRecDepth 20000 in
theorem ggX12_readRank_X12_manOf : GoodIn wsX12_readRank wsX12_manOf := goodIn_r _ [12, 10, 11, 6] rfl (by decide +kernel)
set_option maxRecDepth 20000 in
theorem gX12_readRank_X12_manOf : GoodIn wsX12_readRank (va_wsS RX12 239 yX12_manOf wsX12_manOf) := goodIn_app (goodIn_of _ (by decide +kernel)) ggX12_readRank_X12_manOf
set_option maxRecDepth 20000 in
theorem ggX12_readNumber_X12_sign : GoodIn wsX12_readNumber wsX12_sign := goodIn_r _ [6, 1, 7, 8, 9, 10, 11, 12, 13, 14, 15, 16, 17, 18, 19, 20, 21, 22, 23, 24, 25, 26, 27, 28, 29, 30, 31, 32, 33, 34, 35, 36, 37, 38, 39, 40, 41, 42, 43, 44, 45, 46, 47, 48] rfl (by decide +kernel)
set_option maxRecDepth 20000 in
theorem gX12_readNumber_X12_sign : GoodIn wsX12_readNumber (wsV RX12 235 RX12 yX12_sign wsX12_sign) := goodIn_app (goodIn_of _ (by decide +kernel)) ggX12_readNumber_X12_sign
set_option maxRecDepth 20000 in
theorem ggX12_readRights_X12_sign : GoodIn wsX12_readRights wsX12_sign := goodIn_r _ [7, 2, 8, 9, 14, 15, 16, 17, 18, 19, 20, 21, 22, 23, 24, 25, 26, 27, 28, 29, 30, 31, 32, 33, 34, 35, 36, 37, 38, 39, 40, 41, 42, 43, 44, 45, 46, 47, 48, 49, 50, 51, 52, 53] rfl (by decide +kernel)
set_option maxRecDepth 20000 in
theorem gX12_readRights_X12_sign : GoodIn wsX12_readRights (wsV RX12 235 RX12 yX12_sign wsX12_sign) := goodIn_app (goodIn_of _ (by decide +kernel)) ggX12_readRights_X12_sign
set_option maxRecDepth 20000 in
theorem ggX12_readRights_X12_pass : GoodIn wsX12_readRights wsX12_pass := goodIn_r _ [13, 2, 3, 4, 5, 6, 7, 8, 9, 14, 15, 16, 17, 18, 19, 20, 21, 22, 23, 24, 25, 26, 27, 28, 29, 30, 31, 32, 33, 34, 35, 36, 37, 38, 39, 40, 41, 42, 43, 44, 45, 46, 47, 48, 49, 50, 51, 52, 53] rfl (by decide +kernel)
set_option maxRecDepth 20000 in
theorem gX12_readRights_X12_pass : GoodIn wsX12_readRights (wsV RX12 243 RX12 yX12_pass wsX12_pass) := goodIn_app (goodIn_of _ (by decide +kernel)) ggX12_readRights_X12_pass
set_option maxRecDepth 20000 in
theorem ggX12_readPassed_X12_sign : GoodIn wsX12_readPassed wsX12_sign := goodIn_r _ [7, 2, 8, 9, 14, 15, 16, 17, 18, 19, 20, 21, 22, 23, 24, 25, 26, 27, 28, 29, 30, 31, 32, 33, 34, 35, 36, 37, 38, 39, 40, 41, 42, 43, 44, 45, 46, 47, 48, 49, 50, 51, 52, 53] rfl (by decide +kernel)
set_option maxRecDepth 20000 in
theorem gX12_readPassed_X12_sign : GoodIn wsX12_readPassed (wsV RX12 235 RX12 yX12_sign wsX12_sign) := goodIn_app (goodIn_of _ (by decide +kernel)) ggX12_readPassed_X12_sign
set_option maxRecDepth 20000 in
theorem ggX12_readPassed_X12_pass : GoodIn wsX12_readPassed wsX12_pass := goodIn_r _ [13, 2, 3, 4, 5, 6, 7, 8, 9, 14, 15, 16, 17, 18, 19, 20, 21, 22, 23, 24, 25, 26, 27, 28, 29, 30, 31, 32, 33, 34, 35, 36, 37, 38, 39, 40, 41, 42, 43, 44, 45, 46, 47, 48, 49, 50, 51, 52, 53] rfl (by decide +kernel)
set_option maxRecDepth 20000 in
theorem gX12_readPassed_X12_pass : GoodIn wsX12_readPassed (wsV RX12 243 RX12 yX12_pass wsX12_pass) := goodIn_app (goodIn_of _ (by decide +kernel)) ggX12_readPassed_X12_pass
set_option maxRecDepth 20000 in
theorem ggX12_mayStand_X12_countOf : GoodIn wsX12_mayStand wsX12_countOf := goodIn_r2 cbX12_mayStand_f _ [(1, 8), (1, 0), (3, 0), (3, 1), (3, 2), (3, 3), (3, 4), (3, 5), (3, 6), (3, 7), (3, 8), (3, 9), (3, 10), (3, 11), (3, 12), (3, 13), (3, 14), (3, 15), (3, 16), (3, 17), (3, 18), (3, 19), (3, 20), (3, 21), (3, 22), (3, 23), (3, 24), (3, 25), (3, 26), (3, 27), (3, 28), (3, 29), (3, 30), (3, 31), (3, 32), (3, 33), (3, 34), (3, 35), (3, 36), (3, 37), (3, 38), (3, 39)] rfl (by decide +kernel)
set_option maxRecDepth 20000 in
theorem gX12_mayStand_X12_countOf : GoodIn wsX12_mayStand (wsV RX12 247 RX12 yX12_countOf wsX12_countOf) := goodIn_app (goodIn_of _ (by decide +kernel)) ggX12_mayStand_X12_countOf
set_option maxRecDepth 20000 in
theorem ggX12_mayStand_X12_kind : GoodIn wsX12_mayStand wsX12_kind := goodIn_r _ [12] rfl (by decide +kernel)
set_option maxRecDepth 20000 in
theorem gX12_mayStand_X12_kind : GoodIn wsX12_mayStand (va_wsS RX12 136 yX12_kind wsX12_kind) := goodIn_app (goodIn_of _ (by decide +kernel)) ggX12_mayStand_X12_kind
set_option maxRecDepth 20000 in
theorem ggX12_mayStand_X12_isInCheck : GoodIn wsX12_mayStand wsX12_isInCheck := goodIn_r2 cbX12_mayStand_f _ [(1, 15), (1, 16), (1, 17), (1, 18), (1, 7), (1, 19), (1, 0), (1, 20), (1, 21), (1, 22), (1, 23), (2, 0), (2, 1), (2, 2), (2, 3), (2, 4), (2, 5), (2, 6), (2, 7), (2, 8), (2, 9), (2, 10), (3, 0), (3, 1), (3, 2), (3, 3), (3, 4), (3, 5), (3, 6), (3, 7), (3, 8), (3, 9), (3, 10), (3, 11), (3, 12), (3, 13), (3, 14), (3, 15), (3, 16), (3, 17), (3, 18), (3, 19), (3, 20), (3, 21), (3, 22), (3, 23), (3, 24), (3, 25), (3, 26), (3, 27), (3, 28), (3, 29), (3, 30), (3, 31), (3, 32), (3, 33), (3, 34), (3, 35), (3, 36), (3, 37), (3, 38), (3, 39)] rfl (by decide +kernel)
set_option maxRecDepth 20000 in
theorem gX12_mayStand_X12_isInCheck : GoodIn wsX12_mayStand (wsV RX12 152 RX12 yX12_isInCheck wsX12_isInCheck) := goodIn_app (goodIn_of _ (by decide +kernel)) ggX12_mayStand_X12_isInCheck
set_option maxRecDepth 20000 in
theorem ggX12_mayStand_X12_step : GoodIn wsX12_mayStand wsX12_step := goodIn_r _ [27] rfl (by decide +kernel)
set_option maxRecDepth 20000 in
theorem gX12_mayStand_X12_step : GoodIn wsX12_mayStand (va_wsS RX12 103 yX12_step wsX12_step) := goodIn_app (goodIn_of _ (by decide +kernel)) ggX12_mayStand_X12_step
set_option maxRecDepth 20000 in
theorem ggX12_mayStand_X12_stands : GoodIn wsX12_mayStand wsX12_stands := goodIn_r2 cbX12_mayStand_f _ [(2, 6), (1, 0), (3, 0), (3, 1), (3, 2), (3, 3), (3, 4), (3, 5), (3, 6), (3, 7), (3, 8), (3, 9), (3, 10), (3, 11), (3, 12), (3, 13), (3, 14), (3, 15), (3, 16), (3, 17), (3, 18), (3, 19), (3, 20), (3, 21), (3, 22), (3, 23), (3, 24), (3, 25), (3, 26), (3, 27), (3, 28), (3, 29), (3, 30), (3, 31), (3, 32), (3, 33), (3, 34), (3, 35), (3, 36), (3, 37), (3, 38), (3, 39)] rfl (by decide +kernel)
set_option maxRecDepth 20000 in
theorem gX12_mayStand_X12_stands : GoodIn wsX12_mayStand (wsV RX12 107 RX12 yX12_stands wsX12_stands) := goodIn_app (goodIn_of _ (by decide +kernel)) ggX12_mayStand_X12_stands
set_option maxRecDepth 20000 in
theorem ggX12_readPosition_X12_readRank : GoodIn wsX12_readPosition wsX12_readRank := goodIn_r2 cbX12_readPosition_f _ [(1, 10), (1, 2), (1, 0), (1, 11), (1, 12), (1, 13), (1, 9), (1, 14), (1, 1), (1, 15), (1, 16), (1, 17), (1, 18), (4, 0), (4, 1), (4, 2), (4, 3), (4, 4), (4, 5), (4, 6), (4, 7), (4, 8), (4, 9), (4, 10), (4, 11), (4, 12), (4, 13), (4, 14), (4, 15), (4, 16), (4, 17), (4, 18), (4, 19), (4, 20), (4, 21), (4, 22), (4, 23), (4, 24), (4, 25), (4, 26), (4, 27), (4, 28), (4, 29), (4, 30), (4, 31), (4, 32), (4, 33), (4, 34), (4, 35), (4, 36), (4, 37), (4, 38), (4, 39)] rfl (by decide +kernel)
set_option maxRecDepth 20000 in
theorem gX12_readPosition_X12_readRank : GoodIn wsX12_readPosition (wsV RX12 250 RX12 yX12_readRank wsX12_readRank) := goodIn_app (goodIn_of _ (by decide +kernel)) ggX12_readPosition_X12_readRank
set_option maxRecDepth 20000 in
theorem ggX12_readPosition_X12_pass : GoodIn wsX12_readPosition wsX12_pass := goodIn_r2 cbX12_readPosition_f _ [(1, 22), (1, 0), (1, 11), (1, 12), (1, 13), (1, 9), (1, 14), (1, 1), (1, 15), (4, 0), (4, 1), (4, 2), (4, 3), (4, 4), (4, 5), (4, 6), (4, 7), (4, 8), (4, 9), (4, 10), (4, 11), (4, 12), (4, 13), (4, 14), (4, 15), (4, 16), (4, 17), (4, 18), (4, 19), (4, 20), (4, 21), (4, 22), (4, 23), (4, 24), (4, 25), (4, 26), (4, 27), (4, 28), (4, 29), (4, 30), (4, 31), (4, 32), (4, 33), (4, 34), (4, 35), (4, 36), (4, 37), (4, 38), (4, 39)] rfl (by decide +kernel)
set_option maxRecDepth 20000 in
theorem gX12_readPosition_X12_pass : GoodIn wsX12_readPosition (wsV RX12 243 RX12 yX12_pass wsX12_pass) := goodIn_app (goodIn_of _ (by decide +kernel)) ggX12_readPosition_X12_pass
set_option maxRecDepth 20000 in
theorem ggX12_readPosition_X12_sign : GoodIn wsX12_readPosition wsX12_sign := goodIn_r2 cbX12_readPosition_f _ [(1, 14), (1, 0), (1, 1), (1, 15), (4, 0), (4, 1), (4, 2), (4, 3), (4, 4), (4, 5), (4, 6), (4, 7), (4, 8), (4, 9), (4, 10), (4, 11), (4, 12), (4, 13), (4, 14), (4, 15), (4, 16), (4, 17), (4, 18), (4, 19), (4, 20), (4, 21), (4, 22), (4, 23), (4, 24), (4, 25), (4, 26), (4, 27), (4, 28), (4, 29), (4, 30), (4, 31), (4, 32), (4, 33), (4, 34), (4, 35), (4, 36), (4, 37), (4, 38), (4, 39)] rfl (by decide +kernel)
set_option maxRecDepth 20000 in
theorem gX12_readPosition_X12_sign : GoodIn wsX12_readPosition (wsV RX12 235 RX12 yX12_sign wsX12_sign) := goodIn_app (goodIn_of _ (by decide +kernel)) ggX12_readPosition_X12_sign
set_option maxRecDepth 20000 in
theorem ggX12_readPosition_X12_readRights : GoodIn wsX12_readPosition wsX12_readRights := goodIn_r2 cbX12_readPosition_f _ [(2, 2), (2, 3), (1, 0), (1, 11), (1, 12), (1, 13), (1, 9), (1, 14), (1, 1), (1, 15), (1, 19), (1, 20), (1, 21), (1, 22), (4, 0), (4, 1), (4, 2), (4, 3), (4, 4), (4, 5), (4, 6), (4, 7), (4, 8), (4, 9), (4, 10), (4, 11), (4, 12), (4, 13), (4, 14), (4, 15), (4, 16), (4, 17), (4, 18), (4, 19), (4, 20), (4, 21), (4, 22), (4, 23), (4, 24), (4, 25), (4, 26), (4, 27), (4, 28), (4, 29), (4, 30), (4, 31), (4, 32), (4, 33), (4, 34), (4, 35), (4, 36), (4, 37), (4, 38), (4, 39)] rfl (by decide +kernel)
set_option maxRecDepth 20000 in
theorem gX12_readPosition_X12_readRights : GoodIn wsX12_readPosition (wsV RX12 253 RX12 yX12_readRights wsX12_readRights) := goodIn_app (goodIn_of _ (by decide +kernel)) ggX12_readPosition_X12_readRights
set_option maxRecDepth 20000 in
theorem ggX12_readPosition_X12_readPassed : GoodIn wsX12_readPosition wsX12_readPassed := goodIn_r2 cbX12_readPosition_f _ [(2, 7), (2, 8), (1, 0), (1, 11), (1, 12), (1, 13), (1, 9), (1, 14), (1, 1), (1, 15), (1, 19), (1, 20), (1, 21), (1, 22), (4, 0), (4, 1), (4, 2), (4, 3), (4, 4), (4, 5), (4, 6), (4, 7), (4, 8), (4, 9), (4, 10), (4, 11), (4, 12), (4, 13), (4, 14), (4, 15), (4, 16), (4, 17), (4, 18), (4, 19), (4, 20), (4, 21), (4, 22), (4, 23), (4, 24), (4, 25), (4, 26), (4, 27), (4, 28), (4, 29), (4, 30), (4, 31), (4, 32), (4, 33), (4, 34), (4, 35), (4, 36), (4, 37), (4, 38), (4, 39)] rfl (by decide +kernel)
set_option maxRecDepth 20000 in
theorem gX12_readPosition_X12_readPassed : GoodIn wsX12_readPosition (wsV RX12 257 RX12 yX12_readPassed wsX12_readPassed) := goodIn_app (goodIn_of _ (by decide +kernel)) ggX12_readPosition_X12_readPassed
set_option maxRecDepth 20000 in
theorem ggX12_readPosition_X12_readNumber : GoodIn wsX12_readPosition wsX12_readNumber := goodIn_r2 cbX12_readPosition_f _ [(2, 12), (1, 0), (1, 11), (1, 12), (1, 13), (1, 9), (1, 14), (1, 1), (1, 15), (4, 0), (4, 1), (4, 2), (4, 3), (4, 4), (4, 5), (4, 6), (4, 7), (4, 8), (4, 9), (4, 10), (4, 11), (4, 12), (4, 13), (4, 14), (4, 15), (4, 16), (4, 17), (4, 18), (4, 19), (4, 20), (4, 21), (4, 22), (4, 23), (4, 24), (4, 25), (4, 26), (4, 27), (4, 28), (4, 29), (4, 30), (4, 31), (4, 32), (4, 33), (4, 34), (4, 35), (4, 36), (4, 37), (4, 38), (4, 39)] rfl (by decide +kernel)
set_option maxRecDepth 20000 in
theorem gX12_readPosition_X12_readNumber : GoodIn wsX12_readPosition (wsV RX12 260 RX12 yX12_readNumber wsX12_readNumber) := goodIn_app (goodIn_of _ (by decide +kernel)) ggX12_readPosition_X12_readNumber
set_option maxRecDepth 20000 in
theorem ggX12_readPosition_X12_mayStand : GoodIn wsX12_readPosition wsX12_mayStand := goodIn_r2 cbX12_readPosition_f _ [(2, 16), (1, 2), (1, 3), (2, 3), (2, 8), (2, 17), (2, 18), (2, 19), (1, 9), (2, 20), (2, 21), (2, 22), (2, 23), (3, 0), (3, 1), (3, 2), (3, 3), (3, 4), (3, 5), (3, 6), (3, 7), (3, 8), (3, 9), (3, 10), (3, 11), (3, 12), (3, 13), (3, 14), (3, 15), (3, 16), (3, 17), (3, 18), (3, 19), (3, 20), (3, 21), (3, 22), (4, 0), (4, 1), (4, 2), (4, 3), (4, 4), (4, 5), (4, 6), (4, 7), (4, 8), (4, 9), (4, 10), (4, 11), (4, 12), (4, 13), (4, 14), (4, 15), (4, 16), (4, 17), (4, 18), (4, 19), (4, 20), (4, 21), (4, 22), (4, 23), (4, 24), (4, 25), (4, 26), (4, 27), (4, 28), (4, 29), (4, 30), (4, 31), (4, 32), (4, 33), (4, 34), (4, 35), (4, 36), (4, 37), (4, 38), (4, 39)] rfl (by decide +kernel)
set_option maxRecDepth 20000 in
theorem gX12_readPosition_X12_mayStand : GoodIn wsX12_readPosition (wsV RX12 264 RX12 yX12_mayStand wsX12_mayStand) := goodIn_app (goodIn_of _ (by decide +kernel)) ggX12_readPosition_X12_mayStand
set_option maxRecDepth 20000 in
theorem ggX12_readTag_X12_blanks : GoodIn wsX12_readTag wsX12_blanks := goodIn_r2 cbX12_readTag_f _ [(1, 11), (1, 0), (1, 3), (1, 12), (6, 0), (6, 1), (6, 2), (6, 3), (6, 4), (6, 5), (6, 6), (6, 7), (6, 8), (6, 9), (6, 10), (6, 11), (6, 12), (6, 13), (6, 14), (6, 15), (6, 16), (6, 17), (6, 18), (6, 19), (6, 20), (6, 21), (6, 22), (6, 23), (6, 24), (6, 25), (6, 26), (6, 27), (6, 28), (6, 29), (6, 30), (6, 31), (6, 32), (6, 33), (6, 34), (6, 35), (6, 36), (6, 37), (6, 38), (6, 39)] rfl (by decide +kernel)
set_option maxRecDepth 20000 in
theorem gX12_readTag_X12_blanks : GoodIn wsX12_readTag (wsV RX12 273 RX12 yX12_blanks wsX12_blanks) := goodIn_app (goodIn_of _ (by decide +kernel)) ggX12_readTag_X12_blanks
set_option maxRecDepth 20000 in
theorem ggX12_readTag_X12_look : GoodIn wsX12_readTag wsX12_look := goodIn_r2 cbX12_readTag_f _ [(1, 16), (1, 0), (1, 3), (1, 12), (6, 0), (6, 1), (6, 2), (6, 3), (6, 4), (6, 5), (6, 6), (6, 7), (6, 8), (6, 9), (6, 10), (6, 11), (6, 12), (6, 13), (6, 14), (6, 15), (6, 16), (6, 17), (6, 18), (6, 19), (6, 20), (6, 21), (6, 22), (6, 23), (6, 24), (6, 25), (6, 26), (6, 27), (6, 28), (6, 29), (6, 30), (6, 31), (6, 32), (6, 33), (6, 34), (6, 35), (6, 36), (6, 37), (6, 38), (6, 39)] rfl (by decide +kernel)
set_option maxRecDepth 20000 in
theorem gX12_readTag_X12_look : GoodIn wsX12_readTag (wsV RX12 276 RX12 yX12_look wsX12_look) := goodIn_app (goodIn_of _ (by decide +kernel)) ggX12_readTag_X12_look
set_option maxRecDepth 20000 in
theorem ggX12_readTag_X12_isLetter : GoodIn wsX12_readTag wsX12_isLetter := goodIn_r _ [20] rfl (by decide +kernel)
set_option maxRecDepth 20000 in
theorem gX12_readTag_X12_isLetter : GoodIn wsX12_readTag (va_wsS RX12 279 yX12_isLetter wsX12_isLetter) := goodIn_app (goodIn_of _ (by decide +kernel)) ggX12_readTag_X12_isLetter
set_option maxRecDepth 20000 in
theorem ggX12_readTag_X12_isDigit : GoodIn wsX12_readTag wsX12_isDigit := goodIn_r _ [23] rfl (by decide +kernel)
set_option maxRecDepth 20000 in
theorem gX12_readTag_X12_isDigit : GoodIn wsX12_readTag (va_wsS RX12 282 yX12_isDigit wsX12_isDigit) := goodIn_app (goodIn_of _ (by decide +kernel)) ggX12_readTag_X12_isDigit
set_option maxRecDepth 20000 in
theorem ggX12_readTag_X12_fault : GoodIn wsX12_readTag wsX12_fault := goodIn_r _ [26] rfl (by decide +kernel)
set_option maxRecDepth 20000 in
theorem gX12_readTag_X12_fault : GoodIn wsX12_readTag (va_wsS RX12 285 yX12_fault wsX12_fault) := goodIn_app (goodIn_of _ (by decide +kernel)) ggX12_readTag_X12_fault
set_option maxRecDepth 20000 in
theorem ggX12_readTag_X12_isNameThere : GoodIn wsX12_readTag wsX12_isNameThere := goodIn_r2 cbX12_readTag_f _ [(2, 5), (1, 5), (1, 2), (6, 0), (6, 1), (6, 2), (6, 3), (6, 4), (6, 5), (6, 6), (6, 7), (6, 8), (6, 9), (6, 10), (6, 11), (6, 12), (6, 13), (6, 14), (6, 15), (6, 16), (6, 17), (6, 18), (6, 19), (6, 20), (6, 21), (6, 22), (6, 23), (6, 24), (6, 25), (6, 26), (6, 27), (6, 28), (6, 29), (6, 30), (6, 31), (6, 32), (6, 33), (6, 34), (6, 35), (6, 36), (6, 37), (6, 38), (6, 39)] rfl (by decide +kernel)
set_option maxRecDepth 20000 in
theorem gX12_readTag_X12_isNameThere : GoodIn wsX12_readTag (wsV RX12 289 RX12 yX12_isNameThere wsX12_isNameThere) := goodIn_app (goodIn_of _ (by decide +kernel)) ggX12_readTag_X12_isNameThere
set_option maxRecDepth 20000 in
theorem ggX12_readTag_X12_isTag : GoodIn wsX12_readTag wsX12_isTag := goodIn_r2 cbX12_readTag_f _ [(2, 9), (1, 5), (1, 2), (6, 0), (6, 1), (6, 2), (6, 3), (6, 4), (6, 5), (6, 6), (6, 7), (6, 8), (6, 9), (6, 10), (6, 11), (6, 12), (6, 13), (6, 14), (6, 15), (6, 16), (6, 17), (6, 18), (6, 19), (6, 20), (6, 21), (6, 22), (6, 23), (6, 24), (6, 25), (6, 26), (6, 27), (6, 28), (6, 29), (6, 30), (6, 31), (6, 32), (6, 33), (6, 34), (6, 35), (6, 36), (6, 37), (6, 38), (6, 39)] rfl (by decide +kernel)
set_option maxRecDepth 20000 in
theorem gX12_readTag_X12_isTag : GoodIn wsX12_readTag (wsV RX12 292 RX12 yX12_isTag wsX12_isTag) := goodIn_app (goodIn_of _ (by decide +kernel)) ggX12_readTag_X12_isTag
set_option maxRecDepth 20000 in
theorem ggX12_readTag_X12_readPosition : GoodIn wsX12_readTag wsX12_readPosition := goodIn_r2 cbX12_readTag_f _ [(2, 13), (2, 14), (2, 15), (2, 16), (2, 17), (2, 18), (2, 19), (2, 20), (2, 21), (2, 22), (1, 10), (2, 23), (3, 0), (3, 1), (3, 2), (3, 3), (1, 4), (3, 4), (3, 5), (3, 6), (3, 7), (3, 8), (3, 9), (3, 10), (3, 11), (3, 12), (3, 13), (3, 14), (3, 15), (3, 16), (3, 17), (3, 18), (3, 19), (3, 20), (3, 21), (3, 22), (3, 23), (4, 0), (4, 1), (4, 2), (4, 3), (4, 4), (4, 5), (4, 6), (4, 7), (4, 8), (4, 9), (4, 10), (4, 11), (4, 12), (4, 13), (4, 14), (4, 15), (4, 16), (4, 17), (4, 18), (4, 19), (4, 20), (4, 21), (4, 22), (4, 23), (5, 0), (5, 1), (5, 2), (5, 3), (5, 4), (5, 5), (5, 6), (5, 7), (5, 8), (5, 9), (5, 10), (6, 0), (6, 1), (6, 2), (6, 3), (6, 4), (6, 5), (6, 6), (6, 7), (6, 8), (6, 9), (6, 10), (6, 11), (6, 12), (6, 13), (6, 14), (6, 15), (6, 16), (6, 17), (6, 18), (6, 19), (6, 20), (6, 21), (6, 22), (6, 23), (6, 24), (6, 25), (6, 26), (6, 27), (6, 28), (6, 29), (6, 30), (6, 31), (6, 32), (6, 33), (6, 34), (6, 35), (6, 36), (6, 37), (6, 38), (6, 39)] rfl (by decide +kernel)
set_option maxRecDepth 20000 in
theorem gX12_readTag_X12_readPosition : GoodIn wsX12_readTag (wsV RX12 296 RX12 yX12_readPosition wsX12_readPosition) := goodIn_app (goodIn_of _ (by decide +kernel)) ggX12_readTag_X12_readPosition
set_option maxRecDepth 20000 in
theorem ggX12_readTag_X12_start : GoodIn wsX12_readTag wsX12_start := goodIn_r2 cbX12_readTag_f _ [(5, 14), (5, 15), (2, 16), (5, 16), (2, 17), (3, 15), (3, 20), (2, 18), (2, 19), (6, 0), (6, 1), (6, 2), (6, 3), (6, 4), (6, 5), (6, 6), (6, 7), (6, 8), (6, 9), (6, 10), (6, 11), (6, 12), (6, 13), (6, 14), (6, 15), (6, 16), (6, 17), (6, 18), (6, 19), (6, 20), (6, 21), (6, 22), (6, 23), (6, 24), (6, 25), (6, 26), (6, 27), (6, 28), (6, 29), (6, 30), (6, 31), (6, 32), (6, 33), (6, 34), (6, 35), (6, 36), (6, 37), (6, 38), (6, 39)] rfl (by decide +kernel)
set_option maxRecDepth 20000 in
theorem gX12_readTag_X12_start : GoodIn wsX12_readTag (wsV RX12 182 RX12 yX12_start wsX12_start) := goodIn_app (goodIn_of _ (by decide +kernel)) ggX12_readTag_X12_start
set_option maxRecDepth 20000 in
theorem ggX12_readRemarks_X12_blanks : GoodIn wsX12_readRemarks wsX12_blanks := goodIn_r _ [10, 1, 2, 5, 18, 19, 20, 21, 22, 23, 24, 25, 26, 27, 28, 29, 30, 31, 32, 33, 34, 35, 36, 37, 38, 39, 40, 41, 42, 43, 44, 45, 46, 47, 48, 49, 50, 51, 52, 53, 54, 55, 56, 57] rfl (by decide +kernel)
set_option maxRecDepth 20000 in
theorem gX12_readRemarks_X12_blanks : GoodIn wsX12_readRemarks (wsV RX12 273 RX12 yX12_blanks wsX12_blanks) := goodIn_app (goodIn_of _ (by decide +kernel)) ggX12_readRemarks_X12_blanks
set_option maxRecDepth 20000 in
theorem ggX12_readRemarks_X12_look : GoodIn wsX12_readRemarks wsX12_look := goodIn_r _ [14, 1, 2, 5, 18, 19, 20, 21, 22, 23, 24, 25, 26, 27, 28, 29, 30, 31, 32, 33, 34, 35, 36, 37, 38, 39, 40, 41, 42, 43, 44, 45, 46, 47, 48, 49, 50, 51, 52, 53, 54, 55, 56, 57] rfl (by decide +kernel)
set_option maxRecDepth 20000 in
theorem gX12_readRemarks_X12_look : GoodIn wsX12_readRemarks (wsV RX12 276 RX12 yX12_look wsX12_look) := goodIn_app (goodIn_of _ (by decide +kernel)) ggX12_readRemarks_X12_look
set_option maxRecDepth 20000 in
theorem ggX12_readRemarks_X12_fault : GoodIn wsX12_readRemarks wsX12_fault := goodIn_r _ [17] rfl (by decide +kernel)
set_option maxRecDepth 20000 in
theorem gX12_readRemarks_X12_fault : GoodIn wsX12_readRemarks (va_wsS RX12 285 yX12_fault wsX12_fault) := goodIn_app (goodIn_of _ (by decide +kernel)) ggX12_readRemarks_X12_fault
set_option maxRecDepth 20000 in
theorem ggX12_resultHere_X12_look : GoodIn wsX12_resultHere wsX12_look := goodIn_r _ [8, 1, 2, 3, 13, 14, 15, 16, 17, 18, 19, 20, 21, 22, 23, 24, 25, 26, 27, 28, 29, 30, 31, 32, 33, 34, 35, 36, 37, 38, 39, 40, 41, 42, 43, 44, 45, 46, 47, 48, 49, 50, 51, 52] rfl (by decide +kernel)
set_option maxRecDepth 20000 in
theorem gX12_resultHere_X12_look : GoodIn wsX12_resultHere (wsV RX12 276 RX12 yX12_look wsX12_look) := goodIn_app (goodIn_of _ (by decide +kernel)) ggX12_resultHere_X12_look
set_option maxRecDepth 20000 in
theorem ggX12_resultHere_X12_goesOnWith : GoodIn wsX12_resultHere wsX12_goesOnWith := goodIn_r _ [12, 1, 2, 3, 13, 14, 15, 16, 17, 18, 19, 20, 21, 22, 23, 24, 25, 26, 27, 28, 29, 30, 31, 32, 33, 34, 35, 36, 37, 38, 39, 40, 41, 42, 43, 44, 45, 46, 47, 48, 49, 50, 51, 52] rfl (by decide +kernel)
set_option maxRecDepth 20000 in
theorem gX12_resultHere_X12_goesOnWith : GoodIn wsX12_resultHere (wsV RX12 299 RX12 yX12_goesOnWith wsX12_goesOnWith) := goodIn_app (goodIn_of _ (by decide +kernel)) ggX12_resultHere_X12_goesOnWith
set_option maxRecDepth 20000 in
theorem ggX12_readMarks_X12_blanks : GoodIn wsX12_readMarks wsX12_blanks := goodIn_r _ [7, 1, 8, 9, 25, 26, 27, 28, 29, 30, 31, 32, 33, 34, 35, 36, 37, 38, 39, 40, 41, 42, 43, 44, 45, 46, 47, 48, 49, 50, 51, 52, 53, 54, 55, 56, 57, 58, 59, 60, 61, 62, 63, 64] rfl (by decide +kernel)
set_option maxRecDepth 20000 in
theorem gX12_readMarks_X12_blanks : GoodIn wsX12_readMarks (wsV RX12 273 RX12 yX12_blanks wsX12_blanks) := goodIn_app (goodIn_of _ (by decide +kernel)) ggX12_readMarks_X12_blanks
set_option maxRecDepth 20000 in
theorem ggX12_readMarks_X12_look : GoodIn wsX12_readMarks wsX12_look := goodIn_r _ [13, 1, 8, 9, 25, 26, 27, 28, 29, 30, 31, 32, 33, 34, 35, 36, 37, 38, 39, 40, 41, 42, 43, 44, 45, 46, 47, 48, 49, 50, 51, 52, 53, 54, 55, 56, 57, 58, 59, 60, 61, 62, 63, 64] rfl (by decide +kernel)
set_option maxRecDepth 20000 in
theorem gX12_readMarks_X12_look : GoodIn wsX12_readMarks (wsV RX12 276 RX12 yX12_look wsX12_look) := goodIn_app (goodIn_of _ (by decide +kernel)) ggX12_readMarks_X12_look
set_option maxRecDepth 20000 in
theorem ggX12_readMarks_X12_addMarkTo : GoodIn wsX12_readMarks wsX12_addMarkTo := goodIn_r _ [17, 18, 2, 25, 26, 27, 28, 29, 30, 31, 32, 33, 34, 35, 36, 37, 38, 39, 40, 41, 42, 43, 44, 45, 46, 47, 48, 49, 50, 51, 52, 53, 54, 55, 56, 57, 58, 59, 60, 61, 62, 63, 64] rfl (by decide +kernel)
set_option maxRecDepth 20000 in
theorem gX12_readMarks_X12_addMarkTo : GoodIn wsX12_readMarks (wsV RX12 303 RX12 yX12_addMarkTo wsX12_addMarkTo) := goodIn_app (goodIn_of _ (by decide +kernel)) ggX12_readMarks_X12_addMarkTo
set_option maxRecDepth 20000 in
theorem ggX12_readMarks_X12_isDigit : GoodIn wsX12_readMarks wsX12_isDigit := goodIn_r _ [21] rfl (by decide +kernel)
set_option maxRecDepth 20000 in
theorem gX12_readMarks_X12_isDigit : GoodIn wsX12_readMarks (va_wsS RX12 282 yX12_isDigit wsX12_isDigit) := goodIn_app (goodIn_of _ (by decide +kernel)) ggX12_readMarks_X12_isDigit
set_option maxRecDepth 20000 in
theorem ggX12_readMarks_X12_fault : GoodIn wsX12_readMarks wsX12_fault := goodIn_r _ [24] rfl (by decide +kernel)
set_option maxRecDepth 20000 in
theorem gX12_readMarks_X12_fault : GoodIn wsX12_readMarks (va_wsS RX12 285 yX12_fault wsX12_fault) := goodIn_app (goodIn_of _ (by decide +kernel)) ggX12_readMarks_X12_fault
set_option maxRecDepth 20000 in
theorem ggX12_readMoveNumber_X12_look : GoodIn wsX12_readMoveNumber wsX12_look := goodIn_r _ [7, 1, 8, 9, 20, 21, 22, 23, 24, 25, 26, 27, 28, 29, 30, 31, 32, 33, 34, 35, 36, 37, 38, 39, 40, 41, 42, 43, 44, 45, 46, 47, 48, 49, 50, 51, 52, 53, 54, 55, 56, 57, 58, 59] rfl (by decide +kernel)
set_option maxRecDepth 20000 in
theorem gX12_readMoveNumber_X12_look : GoodIn wsX12_readMoveNumber (wsV RX12 276 RX12 yX12_look wsX12_look) := goodIn_app (goodIn_of _ (by decide +kernel)) ggX12_readMoveNumber_X12_look
set_option maxRecDepth 20000 in
theorem ggX12_readMoveNumber_X12_isDigit : GoodIn wsX12_readMoveNumber wsX12_isDigit := goodIn_r _ [12] rfl (by decide +kernel)
set_option maxRecDepth 20000 in
theorem gX12_readMoveNumber_X12_isDigit : GoodIn wsX12_readMoveNumber (va_wsS RX12 282 yX12_isDigit wsX12_isDigit) := goodIn_app (goodIn_of _ (by decide +kernel)) ggX12_readMoveNumber_X12_isDigit
set_option maxRecDepth 20000 in
theorem ggX12_readMoveNumber_X12_fault : GoodIn wsX12_readMoveNumber wsX12_fault := goodIn_r _ [15] rfl (by decide +kernel)
set_option maxRecDepth 20000 in
theorem gX12_readMoveNumber_X12_fault : GoodIn wsX12_readMoveNumber (va_wsS RX12 285 yX12_fault wsX12_fault) := goodIn_app (goodIn_of _ (by decide +kernel)) ggX12_readMoveNumber_X12_fault
set_option maxRecDepth 20000 in
theorem ggX12_readMoveNumber_X12_blanks : GoodIn wsX12_readMoveNumber wsX12_blanks := goodIn_r _ [19, 1, 8, 9, 20, 21, 22, 23, 24, 25, 26, 27, 28, 29, 30, 31, 32, 33, 34, 35, 36, 37, 38, 39, 40, 41, 42, 43, 44, 45, 46, 47, 48, 49, 50, 51, 52, 53, 54, 55, 56, 57, 58, 59] rfl (by decide +kernel)
set_option maxRecDepth 20000 in
theorem gX12_readMoveNumber_X12_blanks : GoodIn wsX12_readMoveNumber (wsV RX12 273 RX12 yX12_blanks wsX12_blanks) := goodIn_app (goodIn_of _ (by decide +kernel)) ggX12_readMoveNumber_X12_blanks
set_option maxRecDepth 20000 in
theorem ggX12_readMove_X12_look : GoodIn wsX12_readMove wsX12_look := goodIn_r2 cbX12_readMove_f _ [(1, 6), (1, 0), (1, 7), (1, 8), (8, 0), (8, 1), (8, 2), (8, 3), (8, 4), (8, 5), (8, 6), (8, 7), (8, 8), (8, 9), (8, 10), (8, 11), (8, 12), (8, 13), (8, 14), (8, 15), (8, 16), (8, 17), (8, 18), (8, 19), (8, 20), (8, 21), (8, 22), (8, 23), (8, 24), (8, 25), (8, 26), (8, 27), (8, 28), (8, 29), (8, 30), (8, 31), (8, 32), (8, 33), (8, 34), (8, 35), (8, 36), (8, 37), (8, 38), (8, 39)] rfl (by decide +kernel)
set_option maxRecDepth 20000 in
theorem gX12_readMove_X12_look : GoodIn wsX12_readMove (wsV RX12 276 RX12 yX12_look wsX12_look) := goodIn_app (goodIn_of _ (by decide +kernel)) ggX12_readMove_X12_look
set_option maxRecDepth 20000 in
theorem ggX12_readMove_X12_isLetter : GoodIn wsX12_readMove wsX12_isLetter := goodIn_r _ [12] rfl (by decide +kernel)
set_option maxRecDepth 20000 in
theorem gX12_readMove_X12_isLetter : GoodIn wsX12_readMove (va_wsS RX12 279 yX12_isLetter wsX12_isLetter) := goodIn_app (goodIn_of _ (by decide +kernel)) ggX12_readMove_X12_isLetter
set_option maxRecDepth 20000 in
theorem ggX12_readMove_X12_fault : GoodIn wsX12_readMove wsX12_fault := goodIn_r _ [15] rfl (by decide +kernel)
set_option maxRecDepth 20000 in
theorem gX12_readMove_X12_fault : GoodIn wsX12_readMove (va_wsS RX12 285 yX12_fault wsX12_fault) := goodIn_app (goodIn_of _ (by decide +kernel)) ggX12_readMove_X12_fault
set_option maxRecDepth 20000 in
theorem ggX12_readMove_X12_isDigit : GoodIn wsX12_readMove wsX12_isDigit := goodIn_r _ [18] rfl (by decide +kernel)
set_option maxRecDepth 20000 in
theorem gX12_readMove_X12_isDigit : GoodIn wsX12_readMove (va_wsS RX12 282 yX12_isDigit wsX12_isDigit) := goodIn_app (goodIn_of _ (by decide +kernel)) ggX12_readMove_X12_isDigit
set_option maxRecDepth 20000 in
theorem ggX12_readMove_X12_understood : GoodIn wsX12_readMove wsX12_understood := goodIn_r2 cbX12_readMove_f _ [(1, 21), (1, 22), (1, 23), (2, 0), (2, 1), (2, 2), (1, 5), (2, 3), (2, 4), (1, 8), (2, 5), (2, 6), (2, 7), (2, 8), (2, 9), (2, 10), (2, 11), (2, 12), (2, 13), (2, 14), (2, 15), (2, 16), (2, 17), (2, 18), (2, 19), (2, 20), (2, 21), (2, 22), (2, 23), (3, 0), (3, 1), (3, 2), (3, 3), (3, 4), (3, 5), (3, 6), (3, 7), (3, 8), (3, 9), (3, 10), (3, 11), (3, 12), (3, 13), (3, 14), (3, 15), (3, 16), (3, 17), (3, 18), (3, 19), (3, 20), (3, 21), (3, 22), (3, 23), (4, 0), (4, 1), (4, 2), (4, 3), (4, 4), (4, 5), (4, 6), (4, 7), (4, 8), (4, 9), (4, 10), (4, 11), (4, 12), (4, 13), (4, 14), (4, 15), (4, 16), (4, 17), (4, 18), (4, 19), (4, 20), (4, 21), (4, 22), (4, 23), (5, 0), (5, 1), (5, 2), (5, 3), (5, 4), (5, 5), (5, 6), (5, 7), (5, 8), (5, 9), (5, 10), (5, 11), (5, 12), (5, 13), (5, 14), (5, 15), (5, 16), (5, 17), (5, 18), (5, 19), (5, 20), (5, 21), (5, 22), (5, 23), (6, 0), (6, 1), (6, 2), (6, 3), (6, 4), (6, 5), (6, 6), (6, 7), (6, 8), (6, 9), (6, 10), (6, 11), (6, 12), (6, 13), (8, 0), (8, 1), (8, 2), (8, 3), (8, 4), (8, 5), (8, 6), (8, 7), (8, 8), (8, 9), (8, 10), (8, 11), (8, 12), (8, 13), (8, 14), (8, 15), (8, 16), (8, 17), (8, 18), (8, 19), (8, 20), (8, 21), (8, 22), (8, 23), (8, 24), (8, 25), (8, 26), (8, 27), (8, 28), (8, 29), (8, 30), (8, 31), (8, 32), (8, 33), (8, 34), (8, 35), (8, 36), (8, 37), (8, 38), (8, 39)] rfl (by decide +kernel)
set_option maxRecDepth 20000 in
theorem gX12_readMove_X12_understood : GoodIn wsX12_readMove (wsV RX12 307 RX12 yX12_understood wsX12_understood) := goodIn_app (goodIn_of _ (by decide +kernel)) ggX12_readMove_X12_understood
set_option maxRecDepth 20000 in
theorem ggX12_readMove_X12_childWith : GoodIn wsX12_readMove wsX12_childWith := goodIn_r2 cbX12_readMove_f _ [(6, 17), (6, 18), (6, 19), (6, 20), (8, 0), (8, 1), (8, 2), (8, 3), (8, 4), (8, 5), (8, 6), (8, 7), (8, 8), (8, 9), (8, 10), (8, 11), (8, 12), (8, 13), (8, 14), (8, 15), (8, 16), (8, 17), (8, 18), (8, 19), (8, 20), (8, 21), (8, 22), (8, 23), (8, 24), (8, 25), (8, 26), (8, 27), (8, 28), (8, 29), (8, 30), (8, 31), (8, 32), (8, 33), (8, 34), (8, 35), (8, 36), (8, 37), (8, 38), (8, 39)] rfl (by decide +kernel)
set_option maxRecDepth 20000 in
theorem gX12_readMove_X12_childWith : GoodIn wsX12_readMove (wsV RX12 310 RX12 yX12_childWith wsX12_childWith) := goodIn_app (goodIn_of _ (by decide +kernel)) ggX12_readMove_X12_childWith
end
section
set_option maxRecDepth 20000 in
theorem ggX12_readMove_X12_append : GoodIn wsX12_readMove wsX12_append := goodIn_r2 cbX12_readMove_f _ [(7, 0), (1, 1), (7, 1), (6, 19), (6, 18), (6, 20), (7, 2), (7, 3), (7, 4), (1, 5), (7, 5), (7, 6), (7, 7), (8, 0), (8, 1), (8, 2), (8, 3), (8, 4), (8, 5), (8, 6), (8, 7), (8, 8), (8, 9), (8, 10), (8, 11), (8, 12), (8, 13), (8, 14), (8, 15), (8, 16), (8, 17), (8, 18), (8, 19), (8, 20), (8, 21), (8, 22), (8, 23), (8, 24), (8, 25), (8, 26), (8, 27), (8, 28), (8, 29), (8, 30), (8, 31), (8, 32), (8, 33), (8, 34), (8, 35), (8, 36), (8, 37), (8, 38), (8, 39)] rfl (by decide +kernel)
set_option maxRecDepth 20000 in
theorem gX12_readMove_X12_append : GoodIn wsX12_readMove (wsV RX12 313 RX12 yX12_append wsX12_append) := goodIn_app (goodIn_of _ (by decide +kernel)) ggX12_readMove_X12_append
set_option maxRecDepth 20000 in
theorem ggX12_readLine_X12_blanks : GoodIn wsX12_readLine wsX12_blanks := goodIn_r2 cbX12_readLine_f _ [(1, 5), (1, 0), (1, 6), (1, 7), (10, 0), (10, 1), (10, 2), (10, 3), (10, 4), (10, 5), (10, 6), (10, 7), (10, 8), (10, 9), (10, 10), (10, 11), (10, 12), (10, 13), (10, 14), (10, 15), (10, 16), (10, 17), (10, 18), (10, 19), (10, 20), (10, 21), (10, 22), (10, 23), (10, 24), (10, 25), (10, 26), (10, 27), (10, 28), (10, 29), (10, 30), (10, 31), (10, 32), (10, 33), (10, 34), (10, 35), (10, 36), (10, 37), (10, 38), (10, 39)] rfl (by decide +kernel)
set_option maxRecDepth 20000 in
theorem gX12_readLine_X12_blanks : GoodIn wsX12_readLine (wsV RX12 273 RX12 yX12_blanks wsX12_blanks) := goodIn_app (goodIn_of _ (by decide +kernel)) ggX12_readLine_X12_blanks
set_option maxRecDepth 20000 in
theorem ggX12_readLine_X12_resultHere : GoodIn wsX12_readLine wsX12_resultHere := goodIn_r2 cbX12_readLine_f _ [(1, 11), (1, 0), (1, 6), (1, 7), (1, 12), (1, 13), (1, 14), (1, 4), (1, 15), (1, 16), (1, 17), (1, 18), (1, 19), (10, 0), (10, 1), (10, 2), (10, 3), (10, 4), (10, 5), (10, 6), (10, 7), (10, 8), (10, 9), (10, 10), (10, 11), (10, 12), (10, 13), (10, 14), (10, 15), (10, 16), (10, 17), (10, 18), (10, 19), (10, 20), (10, 21), (10, 22), (10, 23), (10, 24), (10, 25), (10, 26), (10, 27), (10, 28), (10, 29), (10, 30), (10, 31), (10, 32), (10, 33), (10, 34), (10, 35), (10, 36), (10, 37), (10, 38), (10, 39)] rfl (by decide +kernel)
set_option maxRecDepth 20000 in
theorem gX12_readLine_X12_resultHere : GoodIn wsX12_readLine (wsV RX12 316 RX12 yX12_resultHere wsX12_resultHere) := goodIn_app (goodIn_of _ (by decide +kernel)) ggX12_readLine_X12_resultHere
set_option maxRecDepth 20000 in
theorem ggX12_readLine_X12_look : GoodIn wsX12_readLine wsX12_look := goodIn_r2 cbX12_readLine_f _ [(1, 15), (1, 0), (1, 6), (1, 7), (10, 0), (10, 1), (10, 2), (10, 3), (10, 4), (10, 5), (10, 6), (10, 7), (10, 8), (10, 9), (10, 10), (10, 11), (10, 12), (10, 13), (10, 14), (10, 15), (10, 16), (10, 17), (10, 18), (10, 19), (10, 20), (10, 21), (10, 22), (10, 23), (10, 24), (10, 25), (10, 26), (10, 27), (10, 28), (10, 29), (10, 30), (10, 31), (10, 32), (10, 33), (10, 34), (10, 35), (10, 36), (10, 37), (10, 38), (10, 39)] rfl (by decide +kernel)
set_option maxRecDepth 20000 in
theorem gX12_readLine_X12_look : GoodIn wsX12_readLine (wsV RX12 276 RX12 yX12_look wsX12_look) := goodIn_app (goodIn_of _ (by decide +kernel)) ggX12_readLine_X12_look
set_option maxRecDepth 20000 in
theorem ggX12_readLine_X12_place : GoodIn wsX12_readLine wsX12_place := goodIn_r2 cbX12_readLine_f _ [(1, 23), (2, 0), (2, 1), (2, 2), (2, 3), (2, 4), (2, 5), (2, 6), (2, 7), (2, 8), (2, 9), (2, 10), (2, 11), (2, 12), (2, 13), (1, 4), (2, 14), (2, 15), (2, 16), (2, 17), (2, 18), (2, 19), (2, 20), (2, 21), (2, 22), (2, 23), (3, 0), (3, 1), (3, 2), (3, 3), (3, 4), (3, 5), (3, 6), (3, 7), (3, 8), (3, 9), (3, 10), (3, 11), (3, 12), (3, 13), (3, 14), (3, 15), (3, 16), (3, 17), (3, 18), (3, 19), (3, 20), (3, 21), (3, 22), (3, 23), (4, 0), (4, 1), (4, 2), (4, 3), (4, 4), (4, 5), (4, 6), (4, 7), (4, 8), (4, 9), (4, 10), (4, 11), (4, 12), (4, 13), (4, 14), (4, 15), (4, 16), (4, 17), (4, 18), (4, 19), (4, 20), (4, 21), (4, 22), (4, 23), (5, 0), (5, 1), (5, 2), (5, 3), (5, 4), (5, 5), (5, 6), (5, 7), (5, 8), (5, 9), (5, 10), (5, 11), (5, 12), (5, 13), (5, 14), (5, 15), (10, 0), (10, 1), (10, 2), (10, 3), (10, 4), (10, 5), (10, 6), (10, 7), (10, 8), (10, 9), (10, 10), (10, 11), (10, 12), (10, 13), (10, 14), (10, 15), (10, 16), (10, 17), (10, 18), (10, 19), (10, 20), (10, 21), (10, 22), (10, 23), (10, 24), (10, 25), (10, 26), (10, 27), (10, 28), (10, 29), (10, 30), (10, 31), (10, 32), (10, 33), (10, 34), (10, 35), (10, 36), (10, 37), (10, 38), (10, 39)] rfl (by decide +kernel)
set_option maxRecDepth 20000 in
theorem gX12_readLine_X12_place : GoodIn wsX12_readLine (wsV RX12 95 RX12 yX12_place wsX12_place) := goodIn_app (goodIn_of _ (by decide +kernel)) ggX12_readLine_X12_place
set_option maxRecDepth 20000 in
theorem ggX12_readLine_X12_readMoveNumber : GoodIn wsX12_readLine wsX12_readMoveNumber := goodIn_r2 cbX12_readLine_f _ [(5, 19), (1, 0), (2, 9), (1, 12), (1, 13), (1, 14), (1, 4), (1, 15), (1, 6), (1, 7), (5, 20), (5, 21), (5, 22), (5, 23), (6, 0), (6, 1), (1, 1), (1, 2), (1, 3), (1, 5), (10, 0), (10, 1), (10, 2), (10, 3), (10, 4), (10, 5), (10, 6), (10, 7), (10, 8), (10, 9), (10, 10), (10, 11), (10, 12), (10, 13), (10, 14), (10, 15), (10, 16), (10, 17), (10, 18), (10, 19), (10, 20), (10, 21), (10, 22), (10, 23), (10, 24), (10, 25), (10, 26), (10, 27), (10, 28), (10, 29), (10, 30), (10, 31), (10, 32), (10, 33), (10, 34), (10, 35), (10, 36), (10, 37), (10, 38), (10, 39)] rfl (by decide +kernel)
set_option maxRecDepth 20000 in
theorem gX12_readLine_X12_readMoveNumber : GoodIn wsX12_readLine (wsV RX12 319 RX12 yX12_readMoveNumber wsX12_readMoveNumber) := goodIn_app (goodIn_of _ (by decide +kernel)) ggX12_readLine_X12_readMoveNumber
set_option maxRecDepth 20000 in
theorem ggX12_readLine_X12_readMove : GoodIn wsX12_readLine wsX12_readMove := goodIn_r2 cbX12_readLine_f _ [(6, 5), (1, 0), (6, 6), (1, 12), (1, 13), (1, 14), (1, 4), (1, 15), (1, 6), (1, 7), (6, 7), (6, 8), (6, 9), (5, 23), (6, 0), (6, 1), (5, 20), (5, 21), (5, 22), (6, 10), (6, 11), (6, 12), (6, 13), (3, 13), (3, 14), (6, 14), (6, 15), (6, 16), (6, 17), (2, 2), (2, 15), (2, 16), (2, 17), (2, 18), (2, 19), (2, 20), (2, 21), (6, 18), (6, 19), (6, 20), (6, 21), (6, 22), (6, 23), (7, 0), (7, 1), (7, 2), (7, 3), (7, 4), (7, 5), (7, 6), (7, 7), (7, 8), (7, 9), (7, 10), (7, 11), (7, 12), (7, 13), (7, 14), (7, 15), (7, 16), (7, 17), (7, 18), (7, 19), (7, 20), (7, 21), (7, 22), (2, 5), (4, 22), (4, 23), (5, 0), (5, 1), (5, 2), (5, 3), (2, 6), (2, 7), (2, 8), (2, 9), (2, 11), (2, 12), (2, 13), (2, 14), (2, 22), (2, 23), (3, 0), (3, 1), (3, 2), (3, 3), (3, 4), (3, 5), (3, 6), (3, 7), (3, 8), (5, 4), (5, 5), (5, 6), (5, 7), (5, 8), (5, 9), (5, 10), (5, 11), (4, 10), (4, 11), (4, 12), (4, 13), (4, 14), (4, 15), (4, 16), (4, 17), (3, 18), (3, 19), (3, 20), (3, 21), (3, 15), (3, 16), (3, 17), (3, 22), (3, 23), (4, 0), (4, 1), (4, 2), (4, 3), (4, 4), (4, 5), (4, 6), (4, 7), (4, 8), (4, 9), (7, 23), (8, 0), (8, 1), (8, 2), (5, 12), (5, 13), (5, 14), (5, 15), (8, 3), (8, 4), (8, 5), (8, 6), (8, 7), (2, 10), (8, 8), (8, 9), (8, 10), (8, 11), (8, 12), (2, 1), (8, 13), (8, 14), (8, 15), (8, 16), (8, 17), (8, 18), (10, 0), (10, 1), (10, 2), (10, 3), (10, 4), (10, 5), (10, 6), (10, 7), (10, 8), (10, 9), (10, 10), (10, 11), (10, 12), (10, 13), (10, 14), (10, 15), (10, 16), (10, 17), (10, 18), (10, 19), (10, 20), (10, 21), (10, 22), (10, 23), (10, 24), (10, 25), (10, 26), (10, 27), (10, 28), (10, 29), (10, 30), (10, 31), (10, 32), (10, 33), (10, 34), (10, 35), (10, 36), (10, 37), (10, 38), (10, 39)] rfl (by decide +kernel)
set_option maxRecDepth 20000 in
theorem gX12_readLine_X12_readMove : GoodIn wsX12_readLine (wsV RX12 322 RX12 yX12_readMove wsX12_readMove) := goodIn_app (goodIn_of _ (by decide +kernel)) ggX12_readLine_X12_readMove
set_option maxRecDepth 20000 in
theorem ggX12_readLine_X12_readMarks : GoodIn wsX12_readLine wsX12_readMarks := goodIn_r2 cbX12_readLine_f _ [(8, 22), (1, 0), (8, 17), (1, 1), (1, 2), (1, 3), (1, 4), (1, 5), (1, 6), (1, 7), (1, 12), (1, 13), (1, 14), (1, 15), (8, 23), (9, 0), (9, 1), (9, 2), (9, 3), (5, 20), (5, 21), (5, 22), (5, 23), (6, 0), (6, 1), (10, 0), (10, 1), (10, 2), (10, 3), (10, 4), (10, 5), (10, 6), (10, 7), (10, 8), (10, 9), (10, 10), (10, 11), (10, 12), (10, 13), (10, 14), (10, 15), (10, 16), (10, 17), (10, 18), (10, 19), (10, 20), (10, 21), (10, 22), (10, 23), (10, 24), (10, 25), (10, 26), (10, 27), (10, 28), (10, 29), (10, 30), (10, 31), (10, 32), (10, 33), (10, 34), (10, 35), (10, 36), (10, 37), (10, 38), (10, 39)] rfl (by decide +kernel)
set_option maxRecDepth 20000 in
theorem gX12_readLine_X12_readMarks : GoodIn wsX12_readLine (wsV RX12 325 RX12 yX12_readMarks wsX12_readMarks) := goodIn_app (goodIn_of _ (by decide +kernel)) ggX12_readLine_X12_readMarks
set_option maxRecDepth 20000 in
theorem ggX12_readLine_X12_readRemarks : GoodIn wsX12_readLine wsX12_readRemarks := goodIn_r2 cbX12_readLine_f _ [(9, 7), (1, 0), (1, 6), (8, 18), (9, 8), (1, 7), (1, 1), (1, 2), (1, 3), (1, 4), (1, 5), (1, 12), (1, 13), (1, 14), (1, 15), (5, 23), (6, 0), (6, 1), (10, 0), (10, 1), (10, 2), (10, 3), (10, 4), (10, 5), (10, 6), (10, 7), (10, 8), (10, 9), (10, 10), (10, 11), (10, 12), (10, 13), (10, 14), (10, 15), (10, 16), (10, 17), (10, 18), (10, 19), (10, 20), (10, 21), (10, 22), (10, 23), (10, 24), (10, 25), (10, 26), (10, 27), (10, 28), (10, 29), (10, 30), (10, 31), (10, 32), (10, 33), (10, 34), (10, 35), (10, 36), (10, 37), (10, 38), (10, 39)] rfl (by decide +kernel)
set_option maxRecDepth 20000 in
theorem gX12_readLine_X12_readRemarks : GoodIn wsX12_readLine (wsV RX12 328 RX12 yX12_readRemarks wsX12_readRemarks) := goodIn_app (goodIn_of _ (by decide +kernel)) ggX12_readLine_X12_readRemarks
set_option maxRecDepth 20000 in
theorem ggX12_readLine_X12_fault : GoodIn wsX12_readLine wsX12_fault := goodIn_r2 cbX12_readLine_f _ [(6, 1)] rfl (by decide +kernel)
set_option maxRecDepth 20000 in
theorem gX12_readLine_X12_fault : GoodIn wsX12_readLine (va_wsS RX12 285 yX12_fault wsX12_fault) := goodIn_app (goodIn_of _ (by decide +kernel)) ggX12_readLine_X12_fault
set_option maxRecDepth 20000 in
theorem ggX12_readLine_X12_readLine : GoodIn wsX12_readLine wsX12_readLine := goodIn_r2 cbX12_readLine_f _ [(0, 0), (1, 0), (1, 1), (1, 2), (1, 3), (1, 4), (1, 5), (1, 6), (1, 7), (1, 8), (1, 9), (1, 10), (1, 11), (1, 12), (1, 13), (1, 14), (1, 15), (1, 16), (1, 17), (1, 18), (1, 19), (1, 20), (1, 21), (1, 22), (1, 23), (2, 0), (2, 1), (2, 2), (2, 3), (2, 4), (2, 5), (2, 6), (2, 7), (2, 8), (2, 9), (2, 10), (2, 11), (2, 12), (2, 13), (2, 14), (2, 15), (2, 16), (2, 17), (2, 18), (2, 19), (2, 20), (2, 21), (2, 22), (2, 23), (3, 0), (3, 1), (3, 2), (3, 3), (3, 4), (3, 5), (3, 6), (3, 7), (3, 8), (3, 9), (3, 10), (3, 11), (3, 12), (3, 13), (3, 14), (3, 15), (3, 16), (3, 17), (3, 18), (3, 19), (3, 20), (3, 21), (3, 22), (3, 23), (4, 0), (4, 1), (4, 2), (4, 3), (4, 4), (4, 5), (4, 6), (4, 7), (4, 8), (4, 9), (4, 10), (4, 11), (4, 12), (4, 13), (4, 14), (4, 15), (4, 16), (4, 17), (4, 18), (4, 19), (4, 20), (4, 21), (4, 22), (4, 23), (5, 0), (5, 1), (5, 2), (5, 3), (5, 4), (5, 5), (5, 6), (5, 7), (5, 8), (5, 9), (5, 10), (5, 11), (5, 12), (5, 13), (5, 14), (5, 15), (5, 16), (5, 17), (5, 18), (5, 19), (5, 20), (5, 21), (5, 22), (5, 23), (6, 0), (6, 1), (6, 2), (6, 3), (6, 4), (6, 5), (6, 6), (6, 7), (6, 8), (6, 9), (6, 10), (6, 11), (6, 12), (6, 13), (6, 14), (6, 15), (6, 16), (6, 17), (6, 18), (6, 19), (6, 20), (6, 21), (6, 22), (6, 23), (7, 0), (7, 1), (7, 2), (7, 3), (7, 4), (7, 5), (7, 6), (7, 7), (7, 8), (7, 9), (7, 10), (7, 11), (7, 12), (7, 13), (7, 14), (7, 15), (7, 16), (7, 17), (7, 18), (7, 19), (7, 20), (7, 21), (7, 22), (7, 23), (8, 0), (8, 1), (8, 2), (8, 3), (8, 4), (8, 5), (8, 6), (8, 7), (8, 8), (8, 9), (8, 10), (8, 11), (8, 12), (8, 13), (8, 14), (8, 15), (8, 16), (8, 17), (8, 18), (8, 19), (8, 20), (8, 21), (8, 22), (8, 23), (9, 0), (9, 1), (9, 2), (9, 3), (9, 4), (9, 5), (9, 6), (9, 7), (9, 8), (9, 9), (9, 10), (9, 11), (10, 0), (10, 1), (10, 2), (10, 3), (10, 4), (10, 5), (10, 6), (10, 7), (10, 8), (10, 9), (10, 10), (10, 11), (10, 12), (10, 13), (10, 14), (10, 15), (10, 16), (10, 17), (10, 18), (10, 19), (10, 20), (10, 21), (10, 22), (10, 23), (10, 24), (10, 25), (10, 26), (10, 27), (10, 28), (10, 29), (10, 30), (10, 31), (10, 32), (10, 33), (10, 34), (10, 35), (10, 36), (10, 37), (10, 38), (10, 39)] rfl (by decide +kernel)
set_option maxRecDepth 20000 in
theorem gX12_readLine_X12_readLine : GoodIn wsX12_readLine (wsV RX12 331 RX12 yX12_readLine wsX12_readLine) := goodIn_app (goodIn_of _ (by decide +kernel)) ggX12_readLine_X12_readLine
set_option maxRecDepth 20000 in
theorem ggX12_readGame_X12_blanks : GoodIn wsX12_readGame wsX12_blanks := goodIn_r2 cbX12_readGame_f _ [(1, 8), (1, 0), (1, 3), (1, 9), (13, 0), (13, 1), (13, 2), (13, 3), (13, 4), (13, 5), (13, 6), (13, 7), (13, 8), (13, 9), (13, 10), (13, 11), (13, 12), (13, 13), (13, 14), (13, 15), (13, 16), (13, 17), (13, 18), (13, 19), (13, 20), (13, 21), (13, 22), (13, 23), (13, 24), (13, 25), (13, 26), (13, 27), (13, 28), (13, 29), (13, 30), (13, 31), (13, 32), (13, 33), (13, 34), (13, 35), (13, 36), (13, 37), (13, 38), (13, 39)] rfl (by decide +kernel)
set_option maxRecDepth 20000 in
theorem gX12_readGame_X12_blanks : GoodIn wsX12_readGame (wsV RX12 273 RX12 yX12_blanks wsX12_blanks) := goodIn_app (goodIn_of _ (by decide +kernel)) ggX12_readGame_X12_blanks
set_option maxRecDepth 20000 in
theorem ggX12_readGame_X12_look : GoodIn wsX12_readGame wsX12_look := goodIn_r2 cbX12_readGame_f _ [(1, 13), (1, 0), (1, 3), (1, 9), (13, 0), (13, 1), (13, 2), (13, 3), (13, 4), (13, 5), (13, 6), (13, 7), (13, 8), (13, 9), (13, 10), (13, 11), (13, 12), (13, 13), (13, 14), (13, 15), (13, 16), (13, 17), (13, 18), (13, 19), (13, 20), (13, 21), (13, 22), (13, 23), (13, 24), (13, 25), (13, 26), (13, 27), (13, 28), (13, 29), (13, 30), (13, 31), (13, 32), (13, 33), (13, 34), (13, 35), (13, 36), (13, 37), (13, 38), (13, 39)] rfl (by decide +kernel)
set_option maxRecDepth 20000 in
theorem gX12_readGame_X12_look : GoodIn wsX12_readGame (wsV RX12 276 RX12 yX12_look wsX12_look) := goodIn_app (goodIn_of _ (by decide +kernel)) ggX12_readGame_X12_look
set_option maxRecDepth 20000 in
theorem ggX12_readGame_X12_readTag : GoodIn wsX12_readGame wsX12_readTag := goodIn_r2 cbX12_readGame_f _ [(1, 17), (1, 0), (1, 1), (1, 18), (1, 3), (1, 19), (1, 20), (1, 21), (1, 4), (1, 5), (1, 6), (1, 7), (1, 8), (1, 9), (1, 10), (1, 11), (1, 12), (1, 13), (1, 22), (1, 23), (2, 0), (2, 1), (2, 2), (2, 3), (2, 4), (2, 5), (2, 6), (2, 7), (2, 8), (2, 9), (2, 10), (2, 11), (2, 12), (2, 13), (2, 14), (2, 15), (2, 16), (2, 17), (2, 18), (2, 19), (2, 20), (2, 21), (2, 22), (2, 23), (3, 0), (3, 1), (3, 2), (3, 3), (3, 4), (3, 5), (3, 6), (3, 7), (3, 8), (3, 9), (3, 10), (3, 11), (3, 12), (3, 13), (3, 14), (3, 15), (3, 16), (3, 17), (3, 18), (3, 19), (3, 20), (3, 21), (3, 22), (3, 23), (4, 0), (4, 1), (4, 2), (4, 3), (4, 4), (4, 5), (4, 6), (4, 7), (4, 8), (4, 9), (4, 10), (4, 11), (4, 12), (4, 13), (4, 14), (4, 15), (4, 16), (4, 17), (4, 18), (4, 19), (4, 20), (4, 21), (4, 22), (4, 23), (5, 0), (5, 1), (5, 2), (5, 3), (5, 4), (5, 5), (5, 6), (5, 7), (5, 8), (5, 9), (5, 10), (5, 11), (5, 12), (5, 13), (5, 14), (5, 15), (5, 16), (5, 17), (5, 18), (5, 19), (5, 20), (5, 21), (13, 0), (13, 1), (13, 2), (13, 3), (13, 4), (13, 5), (13, 6), (13, 7), (13, 8), (13, 9), (13, 10), (13, 11), (13, 12), (13, 13), (13, 14), (13, 15), (13, 16), (13, 17), (13, 18), (13, 19), (13, 20), (13, 21), (13, 22), (13, 23), (13, 24), (13, 25), (13, 26), (13, 27), (13, 28), (13, 29), (13, 30), (13, 31), (13, 32), (13, 33), (13, 34), (13, 35), (13, 36), (13, 37), (13, 38), (13, 39)] rfl (by decide +kernel)
set_option maxRecDepth 20000 in
theorem gX12_readGame_X12_readTag : GoodIn wsX12_readGame (wsV RX12 334 RX12 yX12_readTag wsX12_readTag) := goodIn_app (goodIn_of _ (by decide +kernel)) ggX12_readGame_X12_readTag
set_option maxRecDepth 20000 in
theorem ggX12_readGame_X12_readRemarks : GoodIn wsX12_readGame wsX12_readRemarks := goodIn_r2 cbX12_readGame_f _ [(6, 1), (1, 0), (1, 3), (6, 2), (6, 3), (1, 9), (1, 4), (1, 5), (1, 6), (1, 7), (1, 8), (1, 10), (1, 11), (1, 12), (1, 13), (2, 4), (2, 5), (2, 6), (13, 0), (13, 1), (13, 2), (13, 3), (13, 4), (13, 5), (13, 6), (13, 7), (13, 8), (13, 9), (13, 10), (13, 11), (13, 12), (13, 13), (13, 14), (13, 15), (13, 16), (13, 17), (13, 18), (13, 19), (13, 20), (13, 21), (13, 22), (13, 23), (13, 24), (13, 25), (13, 26), (13, 27), (13, 28), (13, 29), (13, 30), (13, 31), (13, 32), (13, 33), (13, 34), (13, 35), (13, 36), (13, 37), (13, 38), (13, 39)] rfl (by decide +kernel)
set_option maxRecDepth 20000 in
theorem gX12_readGame_X12_readRemarks : GoodIn wsX12_readGame (wsV RX12 328 RX12 yX12_readRemarks wsX12_readRemarks) := goodIn_app (goodIn_of _ (by decide +kernel)) ggX12_readGame_X12_readRemarks
set_option maxRecDepth 20000 in
theorem ggX12_readGame_X12_readLine : GoodIn wsX12_readGame wsX12_readLine := goodIn_r2 cbX12_readGame_f _ [(6, 7), (1, 0), (1, 4), (1, 5), (1, 6), (1, 7), (1, 8), (1, 3), (1, 9), (6, 8), (6, 9), (6, 10), (6, 11), (1, 10), (1, 11), (1, 12), (1, 13), (6, 12), (6, 13), (6, 14), (6, 15), (6, 16), (6, 17), (6, 18), (6, 19), (6, 20), (6, 21), (2, 21), (5, 20), (5, 21), (2, 22), (3, 20), (4, 1), (2, 23), (3, 0), (6, 22), (6, 23), (7, 0), (7, 1), (7, 2), (4, 14), (4, 15), (4, 16), (7, 3), (7, 4), (7, 5), (7, 6), (7, 7), (7, 8), (7, 9), (7, 10), (5, 5), (5, 6), (5, 7), (5, 8), (5, 9), (5, 10), (5, 11), (7, 11), (7, 12), (7, 13), (7, 14), (7, 15), (7, 16), (7, 17), (7, 18), (7, 19), (7, 20), (7, 21), (7, 22), (7, 23), (8, 0), (8, 1), (8, 2), (8, 3), (8, 4), (8, 5), (8, 6), (8, 7), (8, 8), (8, 9), (8, 10), (8, 11), (5, 1), (5, 2), (5, 3), (5, 4), (5, 12), (5, 13), (5, 14), (5, 15), (8, 12), (8, 13), (8, 14), (8, 15), (8, 16), (8, 17), (8, 18), (8, 19), (8, 20), (8, 21), (4, 17), (4, 18), (4, 19), (4, 20), (4, 21), (4, 22), (4, 23), (5, 0), (8, 22), (8, 23), (9, 0), (9, 1), (9, 2), (9, 3), (9, 4), (9, 5), (2, 1), (2, 2), (2, 3), (2, 4), (2, 5), (2, 6), (9, 6), (9, 7), (9, 8), (9, 9), (9, 10), (1, 22), (1, 23), (2, 0), (9, 11), (9, 12), (9, 13), (9, 14), (9, 15), (9, 16), (9, 17), (9, 18), (9, 19), (9, 20), (9, 21), (9, 22), (9, 23), (10, 0), (10, 1), (10, 2), (10, 3), (10, 4), (10, 5), (10, 6), (10, 7), (10, 8), (10, 9), (10, 10), (10, 11), (10, 12), (10, 13), (10, 14), (10, 15), (10, 16), (10, 17), (10, 18), (10, 19), (10, 20), (10, 21), (10, 22), (10, 23), (11, 0), (11, 1), (11, 2), (11, 3), (11, 4), (11, 5), (11, 6), (11, 7), (11, 8), (11, 9), (11, 10), (11, 11), (11, 12), (11, 13), (11, 14), (11, 15), (11, 16), (11, 17), (11, 18), (6, 2), (11, 19), (11, 20), (11, 21), (11, 22), (11, 23), (12, 0), (12, 1), (12, 2), (12, 3), (5, 22), (5, 23), (6, 0), (6, 1), (6, 3), (6, 4), (6, 5), (6, 6), (13, 0), (13, 1), (13, 2), (13, 3), (13, 4), (13, 5), (13, 6), (13, 7), (13, 8), (13, 9), (13, 10), (13, 11), (13, 12), (13, 13), (13, 14), (13, 15), (13, 16), (13, 17), (13, 18), (13, 19), (13, 20), (13, 21), (13, 22), (13, 23), (13, 24), (13, 25), (13, 26), (13, 27), (13, 28), (13, 29), (13, 30), (13, 31), (13, 32), (13, 33), (13, 34), (13, 35), (13, 36), (13, 37), (13, 38), (13, 39)] rfl (by decide +kernel)
set_option maxRecDepth 20000 in
theorem gX12_readGame_X12_readLine : GoodIn wsX12_readGame (wsV RX12 331 RX12 yX12_readLine wsX12_readLine) := goodIn_app (goodIn_of _ (by decide +kernel)) ggX12_readGame_X12_readLine
set_option maxRecDepth 20000 in
theorem ggX12_readGame_X12_resultHere : GoodIn wsX12_readGame wsX12_resultHere := goodIn_r2 cbX12_readGame_f _ [(6, 11), (1, 0), (1, 3), (1, 9), (1, 10), (1, 11), (1, 12), (1, 7), (1, 13), (6, 12), (6, 13), (6, 14), (6, 15), (13, 0), (13, 1), (13, 2), (13, 3), (13, 4), (13, 5), (13, 6), (13, 7), (13, 8), (13, 9), (13, 10), (13, 11), (13, 12), (13, 13), (13, 14), (13, 15), (13, 16), (13, 17), (13, 18), (13, 19), (13, 20), (13, 21), (13, 22), (13, 23), (13, 24), (13, 25), (13, 26), (13, 27), (13, 28), (13, 29), (13, 30), (13, 31), (13, 32), (13, 33), (13, 34), (13, 35), (13, 36), (13, 37), (13, 38), (13, 39)] rfl (by decide +kernel)
set_option maxRecDepth 20000 in
theorem gX12_readGame_X12_resultHere : GoodIn wsX12_readGame (wsV RX12 316 RX12 yX12_resultHere wsX12_resultHere) := goodIn_app (goodIn_of _ (by decide +kernel)) ggX12_readGame_X12_resultHere
set_option maxRecDepth 20000 in
theorem ggX12_readGame_X12_isTag : GoodIn wsX12_readGame wsX12_isTag := goodIn_r2 cbX12_readGame_f _ [(2, 14), (1, 20), (1, 18), (13, 0), (13, 1), (13, 2), (13, 3), (13, 4), (13, 5), (13, 6), (13, 7), (13, 8), (13, 9), (13, 10), (13, 11), (13, 12), (13, 13), (13, 14), (13, 15), (13, 16), (13, 17), (13, 18), (13, 19), (13, 20), (13, 21), (13, 22), (13, 23), (13, 24), (13, 25), (13, 26), (13, 27), (13, 28), (13, 29), (13, 30), (13, 31), (13, 32), (13, 33), (13, 34), (13, 35), (13, 36), (13, 37), (13, 38), (13, 39)] rfl (by decide +kernel)
set_option maxRecDepth 20000 in
theorem gX12_readGame_X12_isTag : GoodIn wsX12_readGame (wsV RX12 292 RX12 yX12_isTag wsX12_isTag) := goodIn_app (goodIn_of _ (by decide +kernel)) ggX12_readGame_X12_isTag
set_option maxRecDepth 20000 in
theorem ggX12_readGame_X12_isResultValue : GoodIn wsX12_readGame wsX12_isResultValue := goodIn_r2 cbX12_readGame_f _ [(12, 7), (1, 21), (1, 19), (12, 8), (12, 9), (1, 7), (12, 10), (12, 11), (12, 12), (12, 13), (13, 0), (13, 1), (13, 2), (13, 3), (13, 4), (13, 5), (13, 6), (13, 7), (13, 8), (13, 9), (13, 10), (13, 11), (13, 12), (13, 13), (13, 14), (13, 15), (13, 16), (13, 17), (13, 18), (13, 19), (13, 20), (13, 21), (13, 22), (13, 23), (13, 24), (13, 25), (13, 26), (13, 27), (13, 28), (13, 29), (13, 30), (13, 31), (13, 32), (13, 33), (13, 34), (13, 35), (13, 36), (13, 37), (13, 38), (13, 39)] rfl (by decide +kernel)
set_option maxRecDepth 20000 in
theorem gX12_readGame_X12_isResultValue : GoodIn wsX12_readGame (wsV RX12 337 RX12 yX12_isResultValue wsX12_isResultValue) := goodIn_app (goodIn_of _ (by decide +kernel)) ggX12_readGame_X12_isResultValue
set_option maxRecDepth 20000 in
theorem ggX12_readGame_X12_fault : GoodIn wsX12_readGame wsX12_fault := goodIn_r _ [31] rfl (by decide +kernel)
set_option maxRecDepth 20000 in
theorem gX12_readGame_X12_fault : GoodIn wsX12_readGame (va_wsS RX12 285 yX12_fault wsX12_fault) := goodIn_app (goodIn_of _ (by decide +kernel)) ggX12_readGame_X12_fault
set_option maxRecDepth 20000 in
theorem ggX12_isResultValue_X12_resultSize : GoodIn wsX12_isResultValue wsX12_resultSize := goodIn_r _ [6] rfl (by decide +kernel)
set_option maxRecDepth 20000 in
theorem gX12_isResultValue_X12_resultSize : GoodIn wsX12_isResultValue (va_wsS RX12 340 yX12_resultSize wsX12_resultSize) := goodIn_app (goodIn_of _ (by decide +kernel)) ggX12_isResultValue_X12_resultSize
set_option maxRecDepth 20000 in
theorem ggX12_isResultValue_X12_resultSign : GoodIn wsX12_isResultValue wsX12_resultSign := goodIn_r _ [9] rfl (by decide +kernel)
set_option maxRecDepth 20000 in
theorem gX12_isResultValue_X12_resultSign : GoodIn wsX12_isResultValue (va_wsS RX12 343 yX12_resultSign wsX12_resultSign) := goodIn_app (goodIn_of _ (by decide +kernel)) ggX12_isResultValue_X12_resultSign
set_option maxRecDepth 20000 in
theorem ggX12_read_X12_clearGame : GoodIn wsX12_read wsX12_clearGame := goodIn_r2 cbX12_read_f _ [(1, 8), (1, 9), (1, 10), (1, 11), (1, 12), (1, 13), (1, 14), (1, 15), (1, 16), (1, 7), (1, 17), (1, 18), (1, 19), (1, 20), (1, 21), (14, 0), (14, 1), (14, 2), (14, 3), (14, 4), (14, 5), (14, 6), (14, 7), (14, 8), (14, 9), (14, 10), (14, 11), (14, 12), (14, 13), (14, 14), (14, 15), (14, 16), (14, 17), (14, 18), (14, 19), (14, 20), (14, 21), (14, 22), (14, 23), (14, 24), (14, 25), (14, 26), (14, 27), (14, 28), (14, 29), (14, 30), (14, 31), (14, 32), (14, 33), (14, 34), (14, 35), (14, 36), (14, 37), (14, 38), (14, 39)] rfl (by decide +kernel)
set_option maxRecDepth 20000 in
theorem gX12_read_X12_clearGame : GoodIn wsX12_read (wsV RX12 88 RX12 yX12_clearGame wsX12_clearGame) := goodIn_app (goodIn_of _ (by decide +kernel)) ggX12_read_X12_clearGame
set_option maxRecDepth 20000 in
theorem ggX12_read_X12_usual : GoodIn wsX12_read wsX12_usual := goodIn_r2 cbX12_read_f _ [(2, 1), (2, 2), (2, 3), (2, 4), (2, 5), (2, 6), (2, 7), (2, 8), (2, 9), (2, 10), (1, 7), (2, 11), (2, 12), (2, 13), (14, 0), (14, 1), (14, 2), (14, 3), (14, 4), (14, 5), (14, 6), (14, 7), (14, 8), (14, 9), (14, 10), (14, 11), (14, 12), (14, 13), (14, 14), (14, 15), (14, 16), (14, 17), (14, 18), (14, 19), (14, 20), (14, 21), (14, 22), (14, 23), (14, 24), (14, 25), (14, 26), (14, 27), (14, 28), (14, 29), (14, 30), (14, 31), (14, 32), (14, 33), (14, 34), (14, 35), (14, 36), (14, 37), (14, 38), (14, 39)] rfl (by decide +kernel)
set_option maxRecDepth 20000 in
theorem gX12_read_X12_usual : GoodIn wsX12_read (wsV RX12 92 RX12 yX12_usual wsX12_usual) := goodIn_app (goodIn_of _ (by decide +kernel)) ggX12_read_X12_usual
set_option maxRecDepth 20000 in
theorem ggX12_read_X12_readGame : GoodIn wsX12_read wsX12_readGame := goodIn_r2 cbX12_read_f _ [(2, 17), (2, 18), (1, 10), (1, 11), (1, 3), (2, 19), (2, 20), (2, 21), (1, 7), (2, 22), (2, 23), (3, 0), (3, 1), (3, 2), (3, 3), (3, 4), (3, 5), (3, 6), (3, 7), (3, 8), (3, 9), (3, 10), (3, 11), (3, 12), (3, 13), (3, 14), (3, 15), (3, 16), (3, 17), (3, 18), (3, 19), (3, 20), (3, 21), (3, 22), (3, 23), (4, 0), (4, 1), (4, 2), (4, 3), (4, 4), (4, 5), (4, 6), (4, 7), (4, 8), (4, 9), (4, 10), (2, 2), (2, 3), (2, 6), (2, 7), (4, 11), (4, 12), (4, 13), (4, 14), (4, 15), (4, 16), (4, 17), (4, 18), (4, 19), (4, 20), (4, 21), (4, 22), (4, 23), (5, 0), (5, 1), (5, 2), (5, 3), (5, 4), (5, 5), (2, 4), (5, 6), (5, 7), (5, 8), (5, 9), (2, 5), (5, 10), (5, 11), (5, 12), (5, 13), (5, 14), (5, 15), (5, 16), (5, 17), (5, 18), (5, 19), (5, 20), (5, 21), (5, 22), (5, 23), (6, 0), (6, 1), (6, 2), (6, 3), (6, 4), (6, 5), (6, 6), (6, 7), (6, 8), (6, 9), (6, 10), (6, 11), (6, 12), (6, 13), (6, 14), (6, 15), (6, 16), (6, 17), (6, 18), (6, 19), (6, 20), (6, 21), (6, 22), (6, 23), (2, 8), (2, 9), (2, 10), (2, 11), (2, 12), (2, 13), (7, 0), (7, 1), (7, 2), (7, 3), (1, 21), (7, 4), (7, 5), (7, 6), (7, 7), (7, 8), (7, 9), (7, 10), (7, 11), (7, 12), (7, 13), (7, 14), (7, 15), (7, 16), (7, 17), (7, 18), (7, 19), (7, 20), (7, 21), (1, 12), (1, 13), (7, 22), (7, 23), (8, 0), (8, 1), (8, 2), (8, 3), (8, 4), (8, 5), (8, 6), (8, 7), (8, 8), (8, 9), (8, 10), (8, 11), (8, 12), (8, 13), (8, 14), (8, 15), (8, 16), (8, 17), (8, 18), (8, 19), (8, 20), (8, 21), (8, 22), (8, 23), (9, 0), (9, 1), (9, 2), (9, 3), (9, 4), (9, 5), (9, 6), (9, 7), (9, 8), (9, 9), (9, 10), (9, 11), (9, 12), (9, 13), (9, 14), (9, 15), (9, 16), (9, 17), (9, 18), (9, 19), (9, 20), (9, 21), (9, 22), (9, 23), (10, 0), (10, 1), (10, 2), (10, 3), (10, 4), (10, 5), (10, 6), (10, 7), (10, 8), (1, 9), (10, 9), (10, 10), (10, 11), (10, 12), (10, 13), (10, 14), (10, 15), (10, 16), (10, 17), (10, 18), (10, 19), (10, 20), (10, 21), (10, 22), (10, 23), (11, 0), (11, 1), (11, 2), (11, 3), (11, 4), (11, 5), (11, 6), (11, 7), (11, 8), (11, 9), (11, 10), (11, 11), (11, 12), (11, 13), (11, 14), (11, 15), (11, 16), (11, 17), (11, 18), (11, 19), (11, 20), (11, 21), (11, 22), (11, 23), (12, 0), (12, 1), (12, 2), (12, 3), (12, 4), (12, 5), (1, 18), (1, 19), (12, 6), (12, 7), (12, 8), (12, 9), (1, 14), (1, 15), (1, 16), (1, 17), (1, 20), (12, 10), (12, 11), (12, 12), (12, 13), (12, 14), (12, 15), (12, 16), (12, 17), (12, 18), (12, 19), (12, 20), (12, 21), (12, 22), (12, 23), (13, 0), (13, 1), (13, 2), (13, 3), (13, 4), (14, 0), (14, 1), (14, 2), (14, 3), (14, 4), (14, 5), (14, 6), (14, 7), (14, 8), (14, 9), (14, 10), (14, 11), (14, 12), (14, 13), (14, 14), (14, 15), (14, 16), (14, 17), (14, 18), (14, 19), (14, 20), (14, 21), (14, 22), (14, 23), (14, 24), (14, 25), (14, 26), (14, 27), (14, 28), (14, 29), (14, 30), (14, 31), (14, 32), (14, 33), (14, 34), (14, 35), (14, 36), (14, 37), (14, 38), (14, 39)] rfl (by decide +kernel)
set_option maxRecDepth 20000 in
theorem gX12_read_X12_readGame : GoodIn wsX12_read (wsV RX12 350 RX12 yX12_readGame wsX12_readGame) := goodIn_app (goodIn_of _ (by decide +kernel)) ggX12_read_X12_readGame
set_option maxRecDepth 20000 in
theorem ggX12_read_X12_place : GoodIn wsX12_read wsX12_place := goodIn_r2 cbX12_read_f _ [(7, 20), (7, 21), (1, 12), (2, 2), (2, 12), (2, 13), (2, 3), (2, 4), (2, 5), (2, 6), (2, 7), (1, 13), (7, 22), (7, 23), (8, 0), (1, 7), (8, 1), (5, 22), (5, 23), (6, 0), (8, 2), (8, 3), (8, 4), (8, 5), (8, 6), (8, 7), (8, 8), (8, 9), (6, 13), (6, 14), (6, 15), (6, 16), (6, 17), (6, 18), (6, 19), (8, 10), (8, 11), (8, 12), (8, 13), (8, 14), (8, 15), (8, 16), (8, 17), (8, 18), (8, 19), (8, 20), (8, 21), (8, 22), (8, 23), (9, 0), (9, 1), (9, 2), (9, 3), (9, 4), (9, 5), (9, 6), (9, 7), (9, 8), (9, 9), (9, 10), (6, 9), (6, 10), (6, 11), (6, 12), (6, 20), (6, 21), (6, 22), (6, 23), (9, 11), (9, 12), (9, 13), (9, 14), (9, 15), (9, 16), (9, 17), (9, 18), (9, 19), (9, 20), (6, 1), (6, 2), (6, 3), (6, 4), (6, 5), (6, 6), (6, 7), (6, 8), (9, 21), (9, 22), (9, 23), (10, 0), (14, 0), (14, 1), (14, 2), (14, 3), (14, 4), (14, 5), (14, 6), (14, 7), (14, 8), (14, 9), (14, 10), (14, 11), (14, 12), (14, 13), (14, 14), (14, 15), (14, 16), (14, 17), (14, 18), (14, 19), (14, 20), (14, 21), (14, 22), (14, 23), (14, 24), (14, 25), (14, 26), (14, 27), (14, 28), (14, 29), (14, 30), (14, 31), (14, 32), (14, 33), (14, 34), (14, 35), (14, 36), (14, 37), (14, 38), (14, 39)] rfl (by decide +kernel)
set_option maxRecDepth 20000 in
theorem gX12_read_X12_place : GoodIn wsX12_read (wsV RX12 95 RX12 yX12_place wsX12_place) := goodIn_app (goodIn_of _ (by decide +kernel)) ggX12_read_X12_place
set_option maxRecDepth 20000 in
theorem ggX12_find_X12_understood : GoodIn wsX12_find wsX12_understood := goodIn_r2 cbX12_find_f _ [(1, 6), (1, 7), (1, 8), (1, 9), (1, 10), (1, 11), (1, 5), (1, 12), (1, 13), (1, 14), (1, 15), (1, 16), (1, 17), (1, 18), (1, 19), (1, 20), (1, 21), (1, 22), (1, 23), (2, 0), (2, 1), (2, 2), (2, 3), (2, 4), (2, 5), (2, 6), (2, 7), (2, 8), (2, 9), (2, 10), (2, 11), (2, 12), (2, 13), (2, 14), (2, 15), (2, 16), (2, 17), (2, 18), (2, 19), (2, 20), (2, 21), (2, 22), (2, 23), (3, 0), (3, 1), (3, 2), (3, 3), (3, 4), (3, 5), (3, 6), (3, 7), (3, 8), (3, 9), (3, 10), (3, 11), (3, 12), (3, 13), (3, 14), (3, 15), (3, 16), (3, 17), (3, 18), (3, 19), (3, 20), (3, 21), (3, 22), (3, 23), (4, 0), (4, 1), (4, 2), (4, 3), (4, 4), (4, 5), (4, 6), (4, 7), (4, 8), (4, 9), (4, 10), (4, 11), (4, 12), (4, 13), (4, 14), (4, 15), (4, 16), (4, 17), (4, 18), (4, 19), (4, 20), (4, 21), (4, 22), (4, 23), (5, 0), (5, 1), (5, 2), (5, 3), (5, 4), (5, 5), (5, 6), (5, 7), (5, 8), (5, 9), (5, 10), (5, 11), (5, 12), (5, 13), (5, 14), (5, 15), (5, 16), (5, 17), (5, 18), (5, 19), (5, 20), (5, 21), (5, 22), (5, 23), (6, 0), (6, 1), (6, 2), (6, 3), (6, 4), (6, 5), (6, 6), (6, 7), (6, 8), (6, 9), (6, 10), (6, 11), (6, 12), (6, 13), (6, 14), (6, 15), (6, 16), (6, 17), (6, 18), (6, 19), (6, 20), (6, 21), (6, 22), (6, 23), (6, 24), (6, 25), (6, 26), (6, 27), (6, 28), (6, 29), (6, 30), (6, 31), (6, 32), (6, 33), (6, 34), (6, 35), (6, 36), (6, 37), (6, 38), (6, 39)] rfl (by decide +kernel)
set_option maxRecDepth 20000 in
theorem gX12_find_X12_understood : GoodIn wsX12_find (wsV RX12 307 RX12 yX12_understood wsX12_understood) := goodIn_app (goodIn_of _ (by decide +kernel)) ggX12_find_X12_understood
set_option maxRecDepth 20000 in
theorem ggX12_sayNumber_X12_ink : GoodIn wsX12_sayNumber wsX12_ink := goodIn_r _ [5, 6, 7, 8, 9, 10, 11, 12, 13, 14, 15, 16, 17, 18, 19, 20, 21, 22, 23, 24, 25, 26, 27, 28, 29, 30, 31, 32, 33, 34, 35, 36, 37, 38, 39, 40, 41, 42, 43, 44, 45, 46, 47] rfl (by decide +kernel)
set_option maxRecDepth 20000 in
theorem gX12_sayNumber_X12_ink : GoodIn wsX12_sayNumber (wsV RX12 367 RX12 yX12_ink wsX12_ink) := goodIn_app (goodIn_of _ (by decide +kernel)) ggX12_sayNumber_X12_ink
set_option maxRecDepth 20000 in
theorem ggX12_sayRemark_X12_ink : GoodIn wsX12_sayRemark wsX12_ink := goodIn_r _ [7, 8, 9, 10, 11, 12, 13, 14, 15, 16, 17, 18, 19, 20, 21, 22, 23, 24, 25, 26, 27, 28, 29, 30, 31, 32, 33, 34, 35, 36, 37, 38, 39, 40, 41, 42, 43, 44, 45, 46, 47, 48, 49] rfl (by decide +kernel)
set_option maxRecDepth 20000 in
theorem gX12_sayRemark_X12_ink : GoodIn wsX12_sayRemark (wsV RX12 367 RX12 yX12_ink wsX12_ink) := goodIn_app (goodIn_of _ (by decide +kernel)) ggX12_sayRemark_X12_ink
set_option maxRecDepth 20000 in
theorem ggX12_sayMove_X12_place : GoodIn wsX12_sayMove wsX12_place := goodIn_r2 cbX12_sayMove_f _ [(1, 14), (1, 15), (1, 1), (1, 16), (1, 17), (1, 18), (1, 2), (1, 19), (1, 20), (1, 21), (1, 3), (1, 4), (1, 22), (1, 23), (2, 0), (1, 13), (2, 1), (2, 2), (2, 3), (2, 4), (2, 5), (2, 6), (2, 7), (2, 8), (2, 9), (2, 10), (2, 11), (2, 12), (2, 13), (2, 14), (2, 15), (2, 16), (2, 17), (2, 18), (2, 19), (2, 20), (2, 21), (2, 22), (2, 23), (3, 0), (3, 1), (3, 2), (3, 3), (3, 4), (3, 5), (3, 6), (3, 7), (3, 8), (3, 9), (3, 10), (3, 11), (3, 12), (3, 13), (3, 14), (3, 15), (3, 16), (3, 17), (3, 18), (3, 19), (3, 20), (3, 21), (3, 22), (3, 23), (4, 0), (4, 1), (4, 2), (4, 3), (4, 4), (4, 5), (4, 6), (4, 7), (4, 8), (4, 9), (4, 10), (4, 11), (4, 12), (4, 13), (4, 14), (4, 15), (4, 16), (4, 17), (4, 18), (4, 19), (4, 20), (4, 21), (4, 22), (4, 23), (5, 0), (5, 1), (5, 2), (8, 0), (8, 1), (8, 2), (8, 3), (8, 4), (8, 5), (8, 6), (8, 7), (8, 8), (8, 9), (8, 10), (8, 11), (8, 12), (8, 13), (8, 14), (8, 15), (8, 16), (8, 17), (8, 18), (8, 19), (8, 20), (8, 21), (8, 22), (8, 23), (8, 24), (8, 25), (8, 26), (8, 27), (8, 28), (8, 29), (8, 30), (8, 31), (8, 32), (8, 33), (8, 34), (8, 35), (8, 36), (8, 37), (8, 38), (8, 39)] rfl (by decide +kernel)
set_option maxRecDepth 20000 in
theorem gX12_sayMove_X12_place : GoodIn wsX12_sayMove (wsV RX12 95 RX12 yX12_place wsX12_place) := goodIn_app (goodIn_of _ (by decide +kernel)) ggX12_sayMove_X12_place
set_option maxRecDepth 20000 in
theorem ggX12_sayMove_X12_sayNumber : GoodIn wsX12_sayMove wsX12_sayNumber := goodIn_r2 cbX12_sayMove_f _ [(5, 6), (5, 7), (5, 8), (5, 9), (1, 13), (5, 10), (5, 11), (5, 12), (8, 0), (8, 1), (8, 2), (8, 3), (8, 4), (8, 5), (8, 6), (8, 7), (8, 8), (8, 9), (8, 10), (8, 11), (8, 12), (8, 13), (8, 14), (8, 15), (8, 16), (8, 17), (8, 18), (8, 19), (8, 20), (8, 21), (8, 22), (8, 23), (8, 24), (8, 25), (8, 26), (8, 27), (8, 28), (8, 29), (8, 30), (8, 31), (8, 32), (8, 33), (8, 34), (8, 35), (8, 36), (8, 37), (8, 38), (8, 39)] rfl (by decide +kernel)
set_option maxRecDepth 20000 in
theorem gX12_sayMove_X12_sayNumber : GoodIn wsX12_sayMove (wsV RX12 370 RX12 yX12_sayNumber wsX12_sayNumber) := goodIn_app (goodIn_of _ (by decide +kernel)) ggX12_sayMove_X12_sayNumber
set_option maxRecDepth 20000 in
theorem ggX12_sayMove_X12_ink : GoodIn wsX12_sayMove wsX12_ink := goodIn_r2 cbX12_sayMove_f _ [(5, 10), (5, 11), (5, 12), (8, 0), (8, 1), (8, 2), (8, 3), (8, 4), (8, 5), (8, 6), (8, 7), (8, 8), (8, 9), (8, 10), (8, 11), (8, 12), (8, 13), (8, 14), (8, 15), (8, 16), (8, 17), (8, 18), (8, 19), (8, 20), (8, 21), (8, 22), (8, 23), (8, 24), (8, 25), (8, 26), (8, 27), (8, 28), (8, 29), (8, 30), (8, 31), (8, 32), (8, 33), (8, 34), (8, 35), (8, 36), (8, 37), (8, 38), (8, 39)] rfl (by decide +kernel)
set_option maxRecDepth 20000 in
theorem gX12_sayMove_X12_ink : GoodIn wsX12_sayMove (wsV RX12 367 RX12 yX12_ink wsX12_ink) := goodIn_app (goodIn_of _ (by decide +kernel)) ggX12_sayMove_X12_ink
set_option maxRecDepth 20000 in
theorem ggX12_sayMove_X12_spellWhole : GoodIn wsX12_sayMove wsX12_spellWhole := goodIn_r2 cbX12_sayMove_f _ [(5, 16), (5, 17), (5, 18), (5, 19), (1, 13), (5, 20), (1, 16), (3, 0), (3, 1), (2, 2), (2, 3), (2, 4), (2, 5), (2, 6), (2, 7), (2, 8), (5, 21), (5, 22), (5, 23), (6, 0), (1, 5), (6, 1), (6, 2), (6, 3), (6, 4), (6, 5), (6, 6), (6, 7), (6, 8), (1, 6), (6, 9), (6, 10), (6, 11), (6, 12), (6, 13), (6, 14), (6, 15), (6, 16), (6, 17), (6, 18), (6, 19), (1, 2), (4, 9), (4, 10), (4, 11), (4, 12), (4, 13), (4, 14), (1, 19), (1, 20), (1, 21), (1, 3), (1, 22), (1, 23), (2, 0), (2, 1), (2, 9), (2, 10), (2, 11), (2, 12), (2, 13), (2, 14), (2, 15), (2, 16), (2, 17), (2, 18), (2, 19), (4, 15), (4, 16), (4, 17), (4, 18), (4, 19), (4, 20), (4, 21), (4, 22), (3, 21), (3, 22), (3, 23), (4, 0), (4, 1), (4, 2), (4, 3), (4, 4), (3, 5), (3, 6), (3, 7), (3, 8), (3, 2), (3, 3), (3, 4), (3, 9), (3, 10), (3, 11), (3, 12), (3, 13), (3, 14), (3, 15), (3, 16), (3, 17), (3, 18), (3, 19), (3, 20), (6, 20), (6, 21), (6, 22), (6, 23), (4, 23), (5, 0), (5, 1), (5, 2), (8, 0), (8, 1), (8, 2), (8, 3), (8, 4), (8, 5), (8, 6), (8, 7), (8, 8), (8, 9), (8, 10), (8, 11), (8, 12), (8, 13), (8, 14), (8, 15), (8, 16), (8, 17), (8, 18), (8, 19), (8, 20), (8, 21), (8, 22), (8, 23), (8, 24), (8, 25), (8, 26), (8, 27), (8, 28), (8, 29), (8, 30), (8, 31), (8, 32), (8, 33), (8, 34), (8, 35), (8, 36), (8, 37), (8, 38), (8, 39)] rfl (by decide +kernel)
set_option maxRecDepth 20000 in
theorem gX12_sayMove_X12_spellWhole : GoodIn wsX12_sayMove (wsV RX12 373 RX12 yX12_spellWhole wsX12_spellWhole) := goodIn_app (goodIn_of _ (by decide +kernel)) ggX12_sayMove_X12_spellWhole
set_option maxRecDepth 20000 in
theorem ggX12_sayMove_X12_sayRemark : GoodIn wsX12_sayMove wsX12_sayRemark := goodIn_r2 cbX12_sayMove_f _ [(7, 3), (1, 9), (7, 4), (5, 7), (5, 8), (5, 9), (1, 13), (5, 10), (5, 11), (5, 12), (8, 0), (8, 1), (8, 2), (8, 3), (8, 4), (8, 5), (8, 6), (8, 7), (8, 8), (8, 9), (8, 10), (8, 11), (8, 12), (8, 13), (8, 14), (8, 15), (8, 16), (8, 17), (8, 18), (8, 19), (8, 20), (8, 21), (8, 22), (8, 23), (8, 24), (8, 25), (8, 26), (8, 27), (8, 28), (8, 29), (8, 30), (8, 31), (8, 32), (8, 33), (8, 34), (8, 35), (8, 36), (8, 37), (8, 38), (8, 39)] rfl (by decide +kernel)
set_option maxRecDepth 20000 in
theorem gX12_sayMove_X12_sayRemark : GoodIn wsX12_sayMove (wsV RX12 376 RX12 yX12_sayRemark wsX12_sayRemark) := goodIn_app (goodIn_of _ (by decide +kernel)) ggX12_sayMove_X12_sayRemark
set_option maxRecDepth 20000 in
theorem ggX12_sayLine_X12_sayMove : GoodIn wsX12_sayLine wsX12_sayMove := goodIn_r2 cbX12_sayLine_f _ [(1, 8), (1, 0), (1, 9), (1, 10), (1, 11), (1, 12), (1, 13), (1, 14), (1, 15), (1, 16), (1, 1), (1, 17), (1, 18), (1, 19), (1, 7), (1, 20), (1, 21), (1, 22), (1, 23), (2, 0), (2, 1), (2, 2), (2, 3), (2, 4), (2, 5), (2, 6), (2, 7), (2, 8), (2, 9), (2, 10), (2, 11), (2, 12), (2, 13), (2, 14), (2, 15), (2, 16), (2, 17), (2, 18), (2, 19), (2, 20), (2, 21), (2, 22), (2, 23), (3, 0), (3, 1), (3, 2), (3, 3), (3, 4), (3, 5), (3, 6), (3, 7), (3, 8), (3, 9), (3, 10), (3, 11), (3, 12), (3, 13), (3, 14), (3, 15), (3, 16), (3, 17), (3, 18), (3, 19), (3, 20), (3, 21), (3, 22), (3, 23), (4, 0), (4, 1), (4, 2), (4, 3), (4, 4), (4, 5), (4, 6), (4, 7), (4, 8), (4, 9), (4, 10), (4, 11), (4, 12), (4, 13), (4, 14), (4, 15), (4, 16), (4, 17), (4, 18), (4, 19), (4, 20), (4, 21), (4, 22), (4, 23), (5, 0), (5, 1), (5, 2), (5, 3), (5, 4), (5, 5), (5, 6), (5, 7), (5, 8), (5, 9), (5, 10), (5, 11), (5, 12), (5, 13), (5, 14), (5, 15), (5, 16), (5, 17), (5, 18), (5, 19), (5, 20), (5, 21), (5, 22), (5, 23), (6, 0), (6, 1), (6, 2), (6, 3), (6, 4), (6, 5), (6, 6), (6, 7), (6, 8), (6, 9), (6, 10), (6, 11), (6, 12), (6, 13), (6, 14), (6, 15), (6, 16), (6, 17), (6, 18), (6, 19), (6, 20), (6, 21), (6, 22), (6, 23), (7, 0), (7, 1), (7, 2), (7, 3), (7, 4), (7, 5), (7, 6), (7, 7), (7, 8), (7, 9), (7, 10), (8, 0), (8, 1), (8, 2), (8, 3), (8, 4), (8, 5), (8, 6), (8, 7), (8, 8), (8, 9), (8, 10), (8, 11), (8, 12), (8, 13), (8, 14), (8, 15), (8, 16), (8, 17), (8, 18), (8, 19), (8, 20), (8, 21), (8, 22), (8, 23), (8, 24), (8, 25), (8, 26), (8, 27), (8, 28), (8, 29), (8, 30), (8, 31), (8, 32), (8, 33), (8, 34), (8, 35), (8, 36), (8, 37), (8, 38), (8, 39)] rfl (by decide +kernel)
set_option maxRecDepth 20000 in
theorem gX12_sayLine_X12_sayMove : GoodIn wsX12_sayLine (wsV RX12 379 RX12 yX12_sayMove wsX12_sayMove) := goodIn_app (goodIn_of _ (by decide +kernel)) ggX12_sayLine_X12_sayMove
set_option maxRecDepth 20000 in
theorem ggX12_sayLine_X12_ink : GoodIn wsX12_sayLine wsX12_ink := goodIn_r2 cbX12_sayLine_f _ [(5, 16), (5, 17), (5, 18), (8, 0), (8, 1), (8, 2), (8, 3), (8, 4), (8, 5), (8, 6), (8, 7), (8, 8), (8, 9), (8, 10), (8, 11), (8, 12), (8, 13), (8, 14), (8, 15), (8, 16), (8, 17), (8, 18), (8, 19), (8, 20), (8, 21), (8, 22), (8, 23), (8, 24), (8, 25), (8, 26), (8, 27), (8, 28), (8, 29), (8, 30), (8, 31), (8, 32), (8, 33), (8, 34), (8, 35), (8, 36), (8, 37), (8, 38), (8, 39)] rfl (by decide +kernel)
set_option maxRecDepth 20000 in
theorem gX12_sayLine_X12_ink : GoodIn wsX12_sayLine (wsV RX12 367 RX12 yX12_ink wsX12_ink) := goodIn_app (goodIn_of _ (by decide +kernel)) ggX12_sayLine_X12_ink
set_option maxRecDepth 20000 in
theorem ggX12_sayLine_X12_sayLine : GoodIn wsX12_sayLine wsX12_sayLine := goodIn_r2 cbX12_sayLine_f _ [(0, 0), (1, 0), (1, 1), (1, 2), (1, 3), (1, 4), (1, 5), (1, 6), (1, 7), (1, 8), (1, 9), (1, 10), (1, 11), (1, 12), (1, 13), (1, 14), (1, 15), (1, 16), (1, 17), (1, 18), (1, 19), (1, 20), (1, 21), (1, 22), (1, 23), (2, 0), (2, 1), (2, 2), (2, 3), (2, 4), (2, 5), (2, 6), (2, 7), (2, 8), (2, 9), (2, 10), (2, 11), (2, 12), (2, 13), (2, 14), (2, 15), (2, 16), (2, 17), (2, 18), (2, 19), (2, 20), (2, 21), (2, 22), (2, 23), (3, 0), (3, 1), (3, 2), (3, 3), (3, 4), (3, 5), (3, 6), (3, 7), (3, 8), (3, 9), (3, 10), (3, 11), (3, 12), (3, 13), (3, 14), (3, 15), (3, 16), (3, 17), (3, 18), (3, 19), (3, 20), (3, 21), (3, 22), (3, 23), (4, 0), (4, 1), (4, 2), (4, 3), (4, 4), (4, 5), (4, 6), (4, 7), (4, 8), (4, 9), (4, 10), (4, 11), (4, 12), (4, 13), (4, 14), (4, 15), (4, 16), (4, 17), (4, 18), (4, 19), (4, 20), (4, 21), (4, 22), (4, 23), (5, 0), (5, 1), (5, 2), (5, 3), (5, 4), (5, 5), (5, 6), (5, 7), (5, 8), (5, 9), (5, 10), (5, 11), (5, 12), (5, 13), (5, 14), (5, 15), (5, 16), (5, 17), (5, 18), (5, 19), (5, 20), (5, 21), (5, 22), (5, 23), (6, 0), (6, 1), (6, 2), (6, 3), (6, 4), (6, 5), (6, 6), (6, 7), (6, 8), (6, 9), (6, 10), (6, 11), (6, 12), (6, 13), (6, 14), (6, 15), (6, 16), (6, 17), (6, 18), (6, 19), (6, 20), (6, 21), (6, 22), (6, 23), (7, 0), (7, 1), (7, 2), (7, 3), (7, 4), (7, 5), (7, 6), (7, 7), (7, 8), (7, 9), (7, 10), (7, 11), (7, 12), (7, 13), (8, 0), (8, 1), (8, 2), (8, 3), (8, 4), (8, 5), (8, 6), (8, 7), (8, 8), (8, 9), (8, 10), (8, 11), (8, 12), (8, 13), (8, 14), (8, 15), (8, 16), (8, 17), (8, 18), (8, 19), (8, 20), (8, 21), (8, 22), (8, 23), (8, 24), (8, 25), (8, 26), (8, 27), (8, 28), (8, 29), (8, 30), (8, 31), (8, 32), (8, 33), (8, 34), (8, 35), (8, 36), (8, 37), (8, 38), (8, 39)] rfl (by decide +kernel)
set_option maxRecDepth 20000 in
theorem gX12_sayLine_X12_sayLine : GoodIn wsX12_sayLine (wsV RX12 383 RX12 yX12_sayLine wsX12_sayLine) := goodIn_app (goodIn_of _ (by decide +kernel)) ggX12_sayLine_X12_sayLine
set_option maxRecDepth 20000 in
theorem ggX12_write_X12_ink : GoodIn wsX12_write wsX12_ink := goodIn_r2 cbX12_write_f _ [(1, 16), (1, 17), (1, 1), (9, 0), (9, 1), (9, 2), (9, 3), (9, 4), (9, 5), (9, 6), (9, 7), (9, 8), (9, 9), (9, 10), (9, 11), (9, 12), (9, 13), (9, 14), (9, 15), (9, 16), (9, 17), (9, 18), (9, 19), (9, 20), (9, 21), (9, 22), (9, 23), (9, 24), (9, 25), (9, 26), (9, 27), (9, 28), (9, 29), (9, 30), (9, 31), (9, 32), (9, 33), (9, 34), (9, 35), (9, 36), (9, 37), (9, 38), (9, 39)] rfl (by decide +kernel)
set_option maxRecDepth 20000 in
theorem gX12_write_X12_ink : GoodIn wsX12_write (wsV RX12 367 RX12 yX12_ink wsX12_ink) := goodIn_app (goodIn_of _ (by decide +kernel)) ggX12_write_X12_ink
set_option maxRecDepth 20000 in
theorem ggX12_write_X12_sayRemark : GoodIn wsX12_write wsX12_sayRemark := goodIn_r2 cbX12_write_f _ [(1, 21), (1, 8), (1, 22), (1, 12), (1, 13), (1, 14), (1, 15), (1, 16), (1, 17), (1, 1), (9, 0), (9, 1), (9, 2), (9, 3), (9, 4), (9, 5), (9, 6), (9, 7), (9, 8), (9, 9), (9, 10), (9, 11), (9, 12), (9, 13), (9, 14), (9, 15), (9, 16), (9, 17), (9, 18), (9, 19), (9, 20), (9, 21), (9, 22), (9, 23), (9, 24), (9, 25), (9, 26), (9, 27), (9, 28), (9, 29), (9, 30), (9, 31), (9, 32), (9, 33), (9, 34), (9, 35), (9, 36), (9, 37), (9, 38), (9, 39)] rfl (by decide +kernel)
set_option maxRecDepth 20000 in
theorem gX12_write_X12_sayRemark : GoodIn wsX12_write (wsV RX12 376 RX12 yX12_sayRemark wsX12_sayRemark) := goodIn_app (goodIn_of _ (by decide +kernel)) ggX12_write_X12_sayRemark
set_option maxRecDepth 20000 in
theorem ggX12_write_X12_sayLine : GoodIn wsX12_write wsX12_sayLine := goodIn_r2 cbX12_write_f _ [(2, 2), (1, 3), (1, 8), (2, 3), (1, 9), (2, 4), (2, 5), (2, 6), (1, 15), (2, 7), (2, 8), (2, 9), (2, 10), (2, 11), (2, 12), (2, 13), (2, 14), (2, 15), (2, 16), (2, 17), (2, 18), (2, 19), (2, 20), (2, 21), (2, 22), (2, 23), (3, 0), (3, 1), (3, 2), (3, 3), (3, 4), (3, 5), (3, 6), (3, 7), (3, 8), (3, 9), (3, 10), (3, 11), (3, 12), (3, 13), (3, 14), (3, 15), (3, 16), (3, 17), (3, 18), (3, 19), (3, 20), (3, 21), (3, 22), (3, 23), (4, 0), (4, 1), (4, 2), (4, 3), (4, 4), (4, 5), (4, 6), (4, 7), (4, 8), (4, 9), (4, 10), (4, 11), (4, 12), (4, 13), (4, 14), (4, 15), (4, 16), (4, 17), (4, 18), (4, 19), (4, 20), (4, 21), (4, 22), (4, 23), (5, 0), (5, 1), (5, 2), (5, 3), (5, 4), (5, 5), (5, 6), (5, 7), (5, 8), (5, 9), (5, 10), (5, 11), (5, 12), (5, 13), (5, 14), (5, 15), (5, 16), (5, 17), (5, 18), (5, 19), (5, 20), (5, 21), (5, 22), (5, 23), (6, 0), (6, 1), (6, 2), (6, 3), (6, 4), (6, 5), (6, 6), (6, 7), (6, 8), (6, 9), (6, 10), (6, 11), (1, 12), (1, 13), (1, 14), (1, 16), (1, 17), (1, 1), (6, 12), (6, 13), (6, 14), (6, 15), (6, 16), (6, 17), (6, 18), (6, 19), (6, 20), (6, 21), (6, 22), (6, 23), (7, 0), (7, 1), (7, 2), (7, 3), (7, 4), (7, 5), (7, 6), (7, 7), (7, 8), (7, 9), (7, 10), (7, 11), (7, 12), (7, 13), (7, 14), (7, 15), (7, 16), (7, 17), (7, 18), (7, 19), (7, 20), (7, 21), (7, 22), (1, 18), (1, 19), (1, 20), (1, 21), (1, 22), (1, 23), (2, 0), (2, 1), (9, 0), (9, 1), (9, 2), (9, 3), (9, 4), (9, 5), (9, 6), (9, 7), (9, 8), (9, 9), (9, 10), (9, 11), (9, 12), (9, 13), (9, 14), (9, 15), (9, 16), (9, 17), (9, 18), (9, 19), (9, 20), (9, 21), (9, 22), (9, 23), (9, 24), (9, 25), (9, 26), (9, 27), (9, 28), (9, 29), (9, 30), (9, 31), (9, 32), (9, 33), (9, 34), (9, 35), (9, 36), (9, 37), (9, 38), (9, 39)] rfl (by decide +kernel)
set_option maxRecDepth 20000 in
theorem gX12_write_X12_sayLine : GoodIn wsX12_write (wsV RX12 383 RX12 yX12_sayLine wsX12_sayLine) := goodIn_app (goodIn_of _ (by decide +kernel)) ggX12_write_X12_sayLine
set_option maxRecDepth 20000 in
theorem ggX12_write_X12_resultSize : GoodIn wsX12_write wsX12_resultSize := goodIn_r2 cbX12_write_f _ [(8, 1)] rfl (by decide +kernel)
set_option maxRecDepth 20000 in
theorem gX12_write_X12_resultSize : GoodIn wsX12_write (va_wsS RX12 340 yX12_resultSize wsX12_resultSize) := goodIn_app (goodIn_of _ (by decide +kernel)) ggX12_write_X12_resultSize
set_option maxRecDepth 20000 in
theorem ggX12_write_X12_resultSign : GoodIn wsX12_write wsX12_resultSign := goodIn_r2 cbX12_write_f _ [(8, 4)] rfl (by decide +kernel)
set_option maxRecDepth 20000 in
theorem gX12_write_X12_resultSign : GoodIn wsX12_write (va_wsS RX12 343 yX12_resultSign wsX12_resultSign) := goodIn_app (goodIn_of _ (by decide +kernel)) ggX12_write_X12_resultSign
set_option maxRecDepth 20000 in
theorem ggX12_write_X12_place : GoodIn wsX12_write wsX12_place := goodIn_r2 cbX12_write_f _ [(2, 19), (2, 20), (2, 8), (2, 21), (2, 22), (2, 23), (2, 9), (3, 0), (3, 1), (3, 2), (2, 10), (2, 11), (3, 3), (3, 4), (3, 5), (1, 15), (3, 6), (3, 7), (3, 8), (3, 9), (3, 10), (3, 11), (3, 12), (3, 13), (3, 14), (3, 15), (3, 16), (3, 17), (3, 18), (3, 19), (3, 20), (3, 21), (3, 22), (3, 23), (4, 0), (4, 1), (4, 2), (4, 3), (4, 4), (4, 5), (4, 6), (4, 7), (4, 8), (4, 9), (4, 10), (4, 11), (4, 12), (4, 13), (4, 14), (4, 15), (4, 16), (4, 17), (4, 18), (4, 19), (4, 20), (4, 21), (4, 22), (4, 23), (5, 0), (5, 1), (5, 2), (5, 3), (5, 4), (5, 5), (5, 6), (5, 7), (5, 8), (5, 9), (5, 10), (5, 11), (5, 12), (5, 13), (5, 14), (5, 15), (5, 16), (5, 17), (5, 18), (5, 19), (5, 20), (5, 21), (5, 22), (5, 23), (6, 0), (6, 1), (6, 2), (6, 3), (6, 4), (6, 5), (6, 6), (6, 7), (9, 0), (9, 1), (9, 2), (9, 3), (9, 4), (9, 5), (9, 6), (9, 7), (9, 8), (9, 9), (9, 10), (9, 11), (9, 12), (9, 13), (9, 14), (9, 15), (9, 16), (9, 17), (9, 18), (9, 19), (9, 20), (9, 21), (9, 22), (9, 23), (9, 24), (9, 25), (9, 26), (9, 27), (9, 28), (9, 29), (9, 30), (9, 31), (9, 32), (9, 33), (9, 34), (9, 35), (9, 36), (9, 37), (9, 38), (9, 39)] rfl (by decide +kernel)
set_option maxRecDepth 20000 in
theorem gX12_write_X12_place : GoodIn wsX12_write (wsV RX12 95 RX12 yX12_place wsX12_place) := goodIn_app (goodIn_of _ (by decide +kernel)) ggX12_write_X12_place
set_option maxRecDepth 20000 in
theorem ggX12_signs_X12_isLegal : GoodIn wsX12_signs wsX12_isLegal := goodIn_r2 cbX12_signs_f _ [(1, 9), (1, 10), (1, 11), (6, 0), (6, 1), (6, 2), (6, 3), (6, 4), (6, 5), (6, 6), (6, 7), (6, 8), (6, 9), (6, 10), (6, 11), (6, 12), (6, 13), (6, 14), (6, 15), (6, 16), (6, 17), (6, 18), (6, 19), (6, 20), (6, 21), (6, 22), (6, 23), (6, 24), (6, 25), (6, 26), (6, 27), (6, 28), (6, 29), (6, 30), (6, 31), (6, 32), (6, 33), (6, 34), (6, 35), (6, 36), (6, 37), (6, 38), (6, 39)] rfl (by decide +kernel)
set_option maxRecDepth 20000 in
theorem gX12_signs_X12_isLegal : GoodIn wsX12_signs (wsV RX12 386 RX12 yX12_isLegal wsX12_isLegal) := goodIn_app (goodIn_of _ (by decide +kernel)) ggX12_signs_X12_isLegal
set_option maxRecDepth 20000 in
theorem ggX12_signs_X12_spellWhole : GoodIn wsX12_signs wsX12_spellWhole := goodIn_r2 cbX12_signs_f _ [(1, 15), (1, 16), (1, 17), (1, 18), (1, 8), (1, 19), (1, 20), (1, 10), (1, 11), (1, 21), (1, 22), (1, 23), (2, 0), (2, 1), (2, 2), (2, 3), (2, 4), (2, 5), (2, 6), (2, 7), (1, 1), (2, 8), (2, 9), (2, 10), (2, 11), (2, 12), (2, 13), (2, 14), (2, 15), (1, 3), (2, 16), (2, 17), (2, 18), (2, 19), (2, 20), (2, 21), (2, 22), (2, 23), (3, 0), (3, 1), (3, 2), (3, 3), (3, 4), (3, 5), (3, 6), (3, 7), (3, 8), (3, 9), (3, 10), (3, 11), (3, 12), (3, 13), (3, 14), (3, 15), (3, 16), (3, 17), (3, 18), (3, 19), (3, 20), (3, 21), (3, 22), (3, 23), (4, 0), (4, 1), (4, 2), (4, 3), (4, 4), (4, 5), (4, 6), (4, 7), (4, 8), (4, 9), (4, 10), (4, 11), (4, 12), (4, 13), (4, 14), (4, 15), (4, 16), (4, 17), (4, 18), (4, 19), (4, 20), (4, 21), (4, 22), (4, 23), (5, 0), (5, 1), (5, 2), (5, 3), (5, 4), (5, 5), (5, 6), (5, 7), (5, 8), (5, 9), (5, 10), (5, 11), (5, 12), (5, 13), (5, 14), (5, 15), (5, 16), (5, 17), (5, 18), (5, 19), (5, 20), (5, 21), (5, 22), (5, 23), (6, 0), (6, 1), (6, 2), (6, 3), (6, 4), (6, 5), (6, 6), (6, 7), (6, 8), (6, 9), (6, 10), (6, 11), (6, 12), (6, 13), (6, 14), (6, 15), (6, 16), (6, 17), (6, 18), (6, 19), (6, 20), (6, 21), (6, 22), (6, 23), (6, 24), (6, 25), (6, 26), (6, 27), (6, 28), (6, 29), (6, 30), (6, 31), (6, 32), (6, 33), (6, 34), (6, 35), (6, 36), (6, 37), (6, 38), (6, 39)] rfl (by decide +kernel)
set_option maxRecDepth 20000 in
theorem gX12_signs_X12_spellWhole : GoodIn wsX12_signs (wsV RX12 373 RX12 yX12_spellWhole wsX12_spellWhole) := goodIn_app (goodIn_of _ (by decide +kernel)) ggX12_signs_X12_spellWhole
set_option maxRecDepth 20000 in
theorem ggX12_node_X12_isNode : GoodIn wsX12_node wsX12_isNode := goodIn_r _ [13, 14, 2, 15, 16, 17, 18, 19, 20, 21, 22, 23, 24, 25, 26, 27, 28, 29, 30, 31, 32, 33, 34, 35, 36, 37, 38, 39, 40, 41, 42, 43, 44, 45, 46, 47, 48, 49, 50, 51, 52, 53, 54] rfl (by decide +kernel)
set_option maxRecDepth 20000 in
theorem gX12_node_X12_isNode : GoodIn wsX12_node (wsV RX12 389 RX12 yX12_isNode wsX12_isNode) := goodIn_app (goodIn_of _ (by decide +kernel)) ggX12_node_X12_isNode
set_option maxRecDepth 20000 in
theorem ggX12_mark_X12_isNode : GoodIn wsX12_mark wsX12_isNode := goodIn_r _ [9, 10, 2, 11, 12, 13, 14, 15, 16, 17, 18, 19, 20, 21, 22, 23, 24, 25, 26, 27, 28, 29, 30, 31, 32, 33, 34, 35, 36, 37, 38, 39, 40, 41, 42, 43, 44, 45, 46, 47, 48, 49, 50] rfl (by decide +kernel)
set_option maxRecDepth 20000 in
theorem gX12_mark_X12_isNode : GoodIn wsX12_mark (wsV RX12 389 RX12 yX12_isNode wsX12_isNode) := goodIn_app (goodIn_of _ (by decide +kernel)) ggX12_mark_X12_isNode
set_option maxRecDepth 20000 in
theorem ggX12_remark_X12_isNode : GoodIn wsX12_remark wsX12_isNode := goodIn_r _ [9, 10, 2, 11, 12, 13, 14, 15, 16, 17, 18, 19, 20, 21, 22, 23, 24, 25, 26, 27, 28, 29, 30, 31, 32, 33, 34, 35, 36, 37, 38, 39, 40, 41, 42, 43, 44, 45, 46, 47, 48, 49, 50] rfl (by decide +kernel)
set_option maxRecDepth 20000 in
theorem gX12_remark_X12_isNode : GoodIn wsX12_remark (wsV RX12 389 RX12 yX12_isNode wsX12_isNode) := goodIn_app (goodIn_of _ (by decide +kernel)) ggX12_remark_X12_isNode
set_option maxRecDepth 20000 in
theorem ggX12_go_X12_isNode : GoodIn wsX12_go wsX12_isNode := goodIn_r2 cbX12_go_f _ [(1, 7), (1, 8), (1, 2), (6, 0), (6, 1), (6, 2), (6, 3), (6, 4), (6, 5), (6, 6), (6, 7), (6, 8), (6, 9), (6, 10), (6, 11), (6, 12), (6, 13), (6, 14), (6, 15), (6, 16), (6, 17), (6, 18), (6, 19), (6, 20), (6, 21), (6, 22), (6, 23), (6, 24), (6, 25), (6, 26), (6, 27), (6, 28), (6, 29), (6, 30), (6, 31), (6, 32), (6, 33), (6, 34), (6, 35), (6, 36), (6, 37), (6, 38), (6, 39)] rfl (by decide +kernel)
set_option maxRecDepth 20000 in
theorem gX12_go_X12_isNode : GoodIn wsX12_go (wsV RX12 389 RX12 yX12_isNode wsX12_isNode) := goodIn_app (goodIn_of _ (by decide +kernel)) ggX12_go_X12_isNode
set_option maxRecDepth 20000 in
theorem ggX12_go_X12_place : GoodIn wsX12_go wsX12_place := goodIn_r2 cbX12_go_f _ [(1, 12), (1, 13), (1, 14), (1, 15), (1, 16), (1, 17), (1, 18), (1, 19), (1, 20), (1, 21), (1, 22), (1, 23), (2, 0), (2, 1), (2, 2), (1, 6), (2, 3), (2, 4), (2, 5), (2, 6), (2, 7), (2, 8), (2, 9), (2, 10), (2, 11), (2, 12), (2, 13), (2, 14), (2, 15), (2, 16), (2, 17), (2, 18), (2, 19), (2, 20), (2, 21), (2, 22), (2, 23), (3, 0), (3, 1), (3, 2), (3, 3), (3, 4), (3, 5), (3, 6), (3, 7), (3, 8), (3, 9), (3, 10), (3, 11), (3, 12), (3, 13), (3, 14), (3, 15), (3, 16), (3, 17), (3, 18), (3, 19), (3, 20), (3, 21), (3, 22), (3, 23), (4, 0), (4, 1), (4, 2), (4, 3), (4, 4), (4, 5), (4, 6), (4, 7), (4, 8), (4, 9), (4, 10), (4, 11), (4, 12), (4, 13), (4, 14), (4, 15), (4, 16), (4, 17), (4, 18), (4, 19), (4, 20), (4, 21), (4, 22), (4, 23), (5, 0), (5, 1), (5, 2), (5, 3), (5, 4), (6, 0), (6, 1), (6, 2), (6, 3), (6, 4), (6, 5), (6, 6), (6, 7), (6, 8), (6, 9), (6, 10), (6, 11), (6, 12), (6, 13), (6, 14), (6, 15), (6, 16), (6, 17), (6, 18), (6, 19), (6, 20), (6, 21), (6, 22), (6, 23), (6, 24), (6, 25), (6, 26), (6, 27), (6, 28), (6, 29), (6, 30), (6, 31), (6, 32), (6, 33), (6, 34), (6, 35), (6, 36), (6, 37), (6, 38), (6, 39)] rfl (by decide +kernel)
set_option maxRecDepth 20000 in
theorem gX12_go_X12_place : GoodIn wsX12_go (wsV RX12 95 RX12 yX12_place wsX12_place) := goodIn_app (goodIn_of _ (by decide +kernel)) ggX12_go_X12_place
set_option maxRecDepth 20000 in
theorem ggX12_add_X12_isLegal : GoodIn wsX12_add wsX12_isLegal := goodIn_r2 cbX12_add_f _ [(1, 9), (1, 10), (1, 11), (7, 0), (7, 1), (7, 2), (7, 3), (7, 4), (7, 5), (7, 6), (7, 7), (7, 8), (7, 9), (7, 10), (7, 11), (7, 12), (7, 13), (7, 14), (7, 15), (7, 16), (7, 17), (7, 18), (7, 19), (7, 20), (7, 21), (7, 22), (7, 23), (7, 24), (7, 25), (7, 26), (7, 27), (7, 28), (7, 29), (7, 30), (7, 31), (7, 32), (7, 33), (7, 34), (7, 35), (7, 36), (7, 37), (7, 38), (7, 39)] rfl (by decide +kernel)
set_option maxRecDepth 20000 in
theorem gX12_add_X12_isLegal : GoodIn wsX12_add (wsV RX12 386 RX12 yX12_isLegal wsX12_isLegal) := goodIn_app (goodIn_of _ (by decide +kernel)) ggX12_add_X12_isLegal
set_option maxRecDepth 20000 in
theorem ggX12_add_X12_childWith : GoodIn wsX12_add wsX12_childWith := goodIn_r2 cbX12_add_f _ [(1, 15), (1, 3), (1, 16), (1, 17), (7, 0), (7, 1), (7, 2), (7, 3), (7, 4), (7, 5), (7, 6), (7, 7), (7, 8), (7, 9), (7, 10), (7, 11), (7, 12), (7, 13), (7, 14), (7, 15), (7, 16), (7, 17), (7, 18), (7, 19), (7, 20), (7, 21), (7, 22), (7, 23), (7, 24), (7, 25), (7, 26), (7, 27), (7, 28), (7, 29), (7, 30), (7, 31), (7, 32), (7, 33), (7, 34), (7, 35), (7, 36), (7, 37), (7, 38), (7, 39)] rfl (by decide +kernel)
set_option maxRecDepth 20000 in
theorem gX12_add_X12_childWith : GoodIn wsX12_add (wsV RX12 310 RX12 yX12_childWith wsX12_childWith) := goodIn_app (goodIn_of _ (by decide +kernel)) ggX12_add_X12_childWith
set_option maxRecDepth 20000 in
theorem ggX12_add_X12_deepOf : GoodIn wsX12_add wsX12_deepOf := goodIn_r2 cbX12_add_f _ [(1, 21), (1, 22), (1, 23), (2, 0), (2, 1), (1, 8), (2, 2), (1, 3), (7, 0), (7, 1), (7, 2), (7, 3), (7, 4), (7, 5), (7, 6), (7, 7), (7, 8), (7, 9), (7, 10), (7, 11), (7, 12), (7, 13), (7, 14), (7, 15), (7, 16), (7, 17), (7, 18), (7, 19), (7, 20), (7, 21), (7, 22), (7, 23), (7, 24), (7, 25), (7, 26), (7, 27), (7, 28), (7, 29), (7, 30), (7, 31), (7, 32), (7, 33), (7, 34), (7, 35), (7, 36), (7, 37), (7, 38), (7, 39)] rfl (by decide +kernel)
set_option maxRecDepth 20000 in
theorem gX12_add_X12_deepOf : GoodIn wsX12_add (wsV RX12 392 RX12 yX12_deepOf wsX12_deepOf) := goodIn_app (goodIn_of _ (by decide +kernel)) ggX12_add_X12_deepOf
set_option maxRecDepth 20000 in
theorem ggX12_add_X12_append : GoodIn wsX12_add wsX12_append := goodIn_r2 cbX12_add_f _ [(2, 6), (1, 4), (1, 22), (1, 16), (1, 3), (1, 17), (2, 7), (2, 8), (2, 9), (1, 8), (2, 10), (2, 11), (2, 12), (7, 0), (7, 1), (7, 2), (7, 3), (7, 4), (7, 5), (7, 6), (7, 7), (7, 8), (7, 9), (7, 10), (7, 11), (7, 12), (7, 13), (7, 14), (7, 15), (7, 16), (7, 17), (7, 18), (7, 19), (7, 20), (7, 21), (7, 22), (7, 23), (7, 24), (7, 25), (7, 26), (7, 27), (7, 28), (7, 29), (7, 30), (7, 31), (7, 32), (7, 33), (7, 34), (7, 35), (7, 36), (7, 37), (7, 38), (7, 39)] rfl (by decide +kernel)
set_option maxRecDepth 20000 in
theorem gX12_add_X12_append : GoodIn wsX12_add (wsV RX12 313 RX12 yX12_append wsX12_append) := goodIn_app (goodIn_of _ (by decide +kernel)) ggX12_add_X12_append
set_option maxRecDepth 20000 in
theorem ggX12_add_X12_place : GoodIn wsX12_add wsX12_place := goodIn_r2 cbX12_add_f _ [(2, 16), (2, 17), (1, 22), (2, 18), (2, 19), (2, 20), (2, 21), (2, 22), (2, 23), (3, 0), (3, 1), (1, 16), (3, 2), (3, 3), (3, 4), (1, 8), (3, 5), (3, 6), (3, 7), (3, 8), (3, 9), (3, 10), (3, 11), (3, 12), (3, 13), (3, 14), (3, 15), (3, 16), (3, 17), (3, 18), (3, 19), (3, 20), (3, 21), (3, 22), (3, 23), (4, 0), (4, 1), (4, 2), (4, 3), (1, 10), (1, 11), (4, 4), (4, 5), (4, 6), (4, 7), (4, 8), (4, 9), (4, 10), (4, 11), (4, 12), (4, 13), (4, 14), (4, 15), (4, 16), (4, 17), (4, 18), (4, 19), (4, 20), (4, 21), (4, 22), (4, 23), (5, 0), (5, 1), (5, 2), (5, 3), (5, 4), (5, 5), (5, 6), (5, 7), (5, 8), (5, 9), (5, 10), (5, 11), (5, 12), (5, 13), (5, 14), (5, 15), (5, 16), (5, 17), (5, 18), (5, 19), (5, 20), (5, 21), (5, 22), (5, 23), (6, 0), (6, 1), (6, 2), (6, 3), (6, 4), (7, 0), (7, 1), (7, 2), (7, 3), (7, 4), (7, 5), (7, 6), (7, 7), (7, 8), (7, 9), (7, 10), (7, 11), (7, 12), (7, 13), (7, 14), (7, 15), (7, 16), (7, 17), (7, 18), (7, 19), (7, 20), (7, 21), (7, 22), (7, 23), (7, 24), (7, 25), (7, 26), (7, 27), (7, 28), (7, 29), (7, 30), (7, 31), (7, 32), (7, 33), (7, 34), (7, 35), (7, 36), (7, 37), (7, 38), (7, 39)] rfl (by decide +kernel)
set_option maxRecDepth 20000 in
theorem gX12_add_X12_place : GoodIn wsX12_add (wsV RX12 95 RX12 yX12_place wsX12_place) := goodIn_app (goodIn_of _ (by decide +kernel)) ggX12_add_X12_place
set_option maxRecDepth 20000 in
theorem ggX12_addMark_X12_addMarkTo : GoodIn wsX12_addMark wsX12_addMarkTo := goodIn_r _ [9, 10, 2, 11, 12, 13, 14, 15, 16, 17, 18, 19, 20, 21, 22, 23, 24, 25, 26, 27, 28, 29, 30, 31, 32, 33, 34, 35, 36, 37, 38, 39, 40, 41, 42, 43, 44, 45, 46, 47, 48, 49, 50] rfl (by decide +kernel)
set_option maxRecDepth 20000 in
theorem gX12_addMark_X12_addMarkTo : GoodIn wsX12_addMark (wsV RX12 303 RX12 yX12_addMarkTo wsX12_addMarkTo) := goodIn_app (goodIn_of _ (by decide +kernel)) ggX12_addMark_X12_addMarkTo
set_option maxRecDepth 20000 in
theorem ggX12_lead_X12_isBehind : GoodIn wsX12_lead wsX12_isBehind := goodIn_r _ [12, 3, 4, 21, 22, 23, 24, 25, 26, 27, 28, 29, 30, 31, 32, 33, 34, 35, 36, 37, 38, 39, 40, 41, 42, 43, 44, 45, 46, 47, 48, 49, 50, 51, 52, 53, 54, 55, 56, 57, 58, 59, 60] rfl (by decide +kernel)
set_option maxRecDepth 20000 in
theorem gX12_lead_X12_isBehind : GoodIn wsX12_lead (wsV RX12 395 RX12 yX12_isBehind wsX12_isBehind) := goodIn_app (goodIn_of _ (by decide +kernel)) ggX12_lead_X12_isBehind
set_option maxRecDepth 20000 in
theorem ggX12_lead_X12_deepOf : GoodIn wsX12_lead wsX12_deepOf := goodIn_r _ [16, 3, 17, 18, 19, 11, 20, 5, 21, 22, 23, 24, 25, 26, 27, 28, 29, 30, 31, 32, 33, 34, 35, 36, 37, 38, 39, 40, 41, 42, 43, 44, 45, 46, 47, 48, 49, 50, 51, 52, 53, 54, 55, 56, 57, 58, 59, 60] rfl (by decide +kernel)
set_option maxRecDepth 20000 in
theorem gX12_lead_X12_deepOf : GoodIn wsX12_lead (wsV RX12 392 RX12 yX12_deepOf wsX12_deepOf) := goodIn_app (goodIn_of _ (by decide +kernel)) ggX12_lead_X12_deepOf
end
section
theorem dX12_init_0 : decode cX12_init 0 = .ok (.aload_n 0, 1) := by decide +kernel
theorem dX12_init_1 : decode cX12_init 1 = .ok (.invokespecial 1, 3) := by decide +kernel
theorem dX12_init_4 : decode cX12_init 4 = .ok (.aload_n 0, 1) := by decide +kernel
theorem dX12_init_5 : decode cX12_init 5 = .ok (.sipush 2000, 3) := by decide +kernel
theorem dX12_init_8 : decode cX12_init 8 = .ok (.newarray .char, 2) := by decide +kernel
theorem dX12_init_10 : decode cX12_init 10 = .ok (.putfield 7, 3) := by decide +kernel
theorem dX12_init_13 : decode cX12_init 13 = .ok (.aload_n 0, 1) := by decide +kernel
theorem dX12_init_14 : decode cX12_init 14 = .ok (.ldc 13, 2) := by decide +kernel
theorem dX12_init_16 : decode cX12_init 16 = .ok (.newarray .char, 2) := by decide +kernel
theorem dX12_init_18 : decode cX12_init 18 = .ok (.putfield 14, 3) := by decide +kernel
theorem dX12_init_21 : decode cX12_init 21 = .ok (.aload_n 0, 1) := by decide +kernel
theorem dX12_init_22 : decode cX12_init 22 = .ok (.iconst 2, 1) := by decide +kernel
theorem dX12_init_23 : decode cX12_init 23 = .ok (.newarray .int, 2) := by decide +kernel
theorem dX12_init_25 : decode cX12_init 25 = .ok (.putfield 17, 3) := by decide +kernel
theorem dX12_init_28 : decode cX12_init 28 = .ok (.aload_n 0, 1) := by decide +kernel
theorem dX12_init_29 : decode cX12_init 29 = .ok (.sipush 602, 3) := by decide +kernel
theorem dX12_init_32 : decode cX12_init 32 = .ok (.newarray .int, 2) := by decide +kernel
theorem dX12_init_34 : decode cX12_init 34 = .ok (.putfield 21, 3) := by decide +kernel
theorem dX12_init_37 : decode cX12_init 37 = .ok (.aload_n 0, 1) := by decide +kernel
theorem dX12_init_38 : decode cX12_init 38 = .ok (.sipush 602, 3) := by decide +kernel
theorem dX12_init_41 : decode cX12_init 41 = .ok (.newarray .int, 2) := by decide +kernel
theorem dX12_init_43 : decode cX12_init 43 = .ok (.putfield 24, 3) := by decide +kernel
theorem dX12_init_46 : decode cX12_init 46 = .ok (.aload_n 0, 1) := by decide +kernel
theorem dX12_init_47 : decode cX12_init 47 = .ok (.sipush 602, 3) := by decide +kernel
theorem dX12_init_50 : decode cX12_init 50 = .ok (.newarray .int, 2) := by decide +kernel
theorem dX12_init_52 : decode cX12_init 52 = .ok (.putfield 27, 3) := by decide +kernel
theorem dX12_init_55 : decode cX12_init 55 = .ok (.aload_n 0, 1) := by decide +kernel
theorem dX12_init_56 : decode cX12_init 56 = .ok (.sipush 602, 3) := by decide +kernel
theorem dX12_init_59 : decode cX12_init 59 = .ok (.newarray .int, 2) := by decide +kernel
theorem dX12_init_61 : decode cX12_init 61 = .ok (.putfield 30, 3) := by decide +kernel
theorem dX12_init_64 : decode cX12_init 64 = .ok (.aload_n 0, 1) := by decide +kernel
theorem dX12_init_65 : decode cX12_init 65 = .ok (.sipush 602, 3) := by decide +kernel
theorem dX12_init_68 : decode cX12_init 68 = .ok (.newarray .int, 2) := by decide +kernel
theorem dX12_init_70 : decode cX12_init 70 = .ok (.putfield 33, 3) := by decide +kernel
theorem dX12_init_73 : decode cX12_init 73 = .ok (.aload_n 0, 1) := by decide +kernel
theorem dX12_init_74 : decode cX12_init 74 = .ok (.sipush 2408, 3) := by decide +kernel
theorem dX12_init_77 : decode cX12_init 77 = .ok (.newarray .int, 2) := by decide +kernel
theorem dX12_init_79 : decode cX12_init 79 = .ok (.putfield 36, 3) := by decide +kernel
theorem dX12_init_82 : decode cX12_init 82 = .ok (.aload_n 0, 1) := by decide +kernel
theorem dX12_init_83 : decode cX12_init 83 = .ok (.sipush 602, 3) := by decide +kernel
theorem dX12_init_86 : decode cX12_init 86 = .ok (.newarray .int, 2) := by decide +kernel
theorem dX12_init_88 : decode cX12_init 88 = .ok (.putfield 39, 3) := by decide +kernel
theorem dX12_init_91 : decode cX12_init 91 = .ok (.aload_n 0, 1) := by decide +kernel
theorem dX12_init_92 : decode cX12_init 92 = .ok (.ldc 42, 2) := by decide +kernel
theorem dX12_init_94 : decode cX12_init 94 = .ok (.newarray .char, 2) := by decide +kernel
theorem dX12_init_96 : decode cX12_init 96 = .ok (.putfield 43, 3) := by decide +kernel
theorem dX12_init_99 : decode cX12_init 99 = .ok (.aload_n 0, 1) := by decide +kernel
theorem dX12_init_100 : decode cX12_init 100 = .ok (.sipush 128, 3) := by decide +kernel
theorem dX12_init_103 : decode cX12_init 103 = .ok (.newarray .int, 2) := by decide +kernel
theorem dX12_init_105 : decode cX12_init 105 = .ok (.putfield 46, 3) := by decide +kernel
theorem dX12_init_108 : decode cX12_init 108 = .ok (.aload_n 0, 1) := by decide +kernel
theorem dX12_init_109 : decode cX12_init 109 = .ok (.bipush 10, 2) := by decide +kernel
theorem dX12_init_111 : decode cX12_init 111 = .ok (.newarray .int, 2) := by decide +kernel
theorem dX12_init_113 : decode cX12_init 113 = .ok (.putfield 49, 3) := by decide +kernel
theorem dX12_init_116 : decode cX12_init 116 = .ok (.aload_n 0, 1) := by decide +kernel
theorem dX12_init_117 : decode cX12_init 117 = .ok (.iconst 2, 1) := by decide +kernel
theorem dX12_init_118 : decode cX12_init 118 = .ok (.newarray .int, 2) := by decide +kernel
theorem dX12_init_120 : decode cX12_init 120 = .ok (.putfield 52, 3) := by decide +kernel
theorem dX12_init_123 : decode cX12_init 123 = .ok (.aload_n 0, 1) := by decide +kernel
theorem dX12_init_124 : decode cX12_init 124 = .ok (.bipush 16, 2) := by decide +kernel
theorem dX12_init_126 : decode cX12_init 126 = .ok (.newarray .int, 2) := by decide +kernel
theorem dX12_init_128 : decode cX12_init 128 = .ok (.putfield 55, 3) := by decide +kernel
theorem dX12_init_131 : decode cX12_init 131 = .ok (.aload_n 0, 1) := by decide +kernel
theorem dX12_init_132 : decode cX12_init 132 = .ok (.sipush 192, 3) := by decide +kernel
theorem dX12_init_135 : decode cX12_init 135 = .ok (.newarray .char, 2) := by decide +kernel
theorem dX12_init_137 : decode cX12_init 137 = .ok (.putfield 58, 3) := by decide +kernel
theorem dX12_init_140 : decode cX12_init 140 = .ok (.aload_n 0, 1) := by decide +kernel
theorem dX12_init_141 : decode cX12_init 141 = .ok (.bipush 16, 2) := by decide +kernel
theorem dX12_init_143 : decode cX12_init 143 = .ok (.newarray .int, 2) := by decide +kernel
theorem dX12_init_145 : decode cX12_init 145 = .ok (.putfield 61, 3) := by decide +kernel
theorem dX12_init_148 : decode cX12_init 148 = .ok (.aload_n 0, 1) := by decide +kernel
theorem dX12_init_149 : decode cX12_init 149 = .ok (.sipush 1536, 3) := by decide +kernel
theorem dX12_init_152 : decode cX12_init 152 = .ok (.newarray .char, 2) := by decide +kernel
theorem dX12_init_154 : decode cX12_init 154 = .ok (.putfield 64, 3) := by decide +kernel
theorem dX12_init_157 : decode cX12_init 157 = .ok (.aload_n 0, 1) := by decide +kernel
theorem dX12_init_158 : decode cX12_init 158 = .ok (.iconst 2, 1) := by decide +kernel
theorem dX12_init_159 : decode cX12_init 159 = .ok (.newarray .int, 2) := by decide +kernel
theorem dX12_init_161 : decode cX12_init 161 = .ok (.putfield 67, 3) := by decide +kernel
theorem dX12_init_164 : decode cX12_init 164 = .ok (.aload_n 0, 1) := by decide +kernel
theorem dX12_init_165 : decode cX12_init 165 = .ok (.bipush 64, 2) := by decide +kernel
theorem dX12_init_167 : decode cX12_init 167 = .ok (.newarray .int, 2) := by decide +kernel
theorem dX12_init_169 : decode cX12_init 169 = .ok (.putfield 70, 3) := by decide +kernel
theorem dX12_init_172 : decode cX12_init 172 = .ok (.aload_n 0, 1) := by decide +kernel
theorem dX12_init_173 : decode cX12_init 173 = .ok (.bipush 64, 2) := by decide +kernel
theorem dX12_init_175 : decode cX12_init 175 = .ok (.newarray .int, 2) := by decide +kernel
theorem dX12_init_177 : decode cX12_init 177 = .ok (.putfield 73, 3) := by decide +kernel
theorem dX12_init_180 : decode cX12_init 180 = .ok (.aload_n 0, 1) := by decide +kernel
theorem dX12_init_181 : decode cX12_init 181 = .ok (.iconst 5, 1) := by decide +kernel
theorem dX12_init_182 : decode cX12_init 182 = .ok (.newarray .int, 2) := by decide +kernel
theorem dX12_init_184 : decode cX12_init 184 = .ok (.putfield 76, 3) := by decide +kernel
theorem dX12_init_187 : decode cX12_init 187 = .ok (.aload_n 0, 1) := by decide +kernel
theorem dX12_init_188 : decode cX12_init 188 = .ok (.sipush 2048, 3) := by decide +kernel
theorem dX12_init_191 : decode cX12_init 191 = .ok (.newarray .int, 2) := by decide +kernel
theorem dX12_init_193 : decode cX12_init 193 = .ok (.putfield 79, 3) := by decide +kernel
theorem dX12_init_196 : decode cX12_init 196 = .ok (.aload_n 0, 1) := by decide +kernel
theorem dX12_init_197 : decode cX12_init 197 = .ok (.sipush 301, 3) := by decide +kernel
theorem dX12_init_200 : decode cX12_init 200 = .ok (.newarray .int, 2) := by decide +kernel
theorem dX12_init_202 : decode cX12_init 202 = .ok (.putfield 82, 3) := by decide +kernel
theorem dX12_init_205 : decode cX12_init 205 = .ok (.aload_n 0, 1) := by decide +kernel
theorem dX12_init_206 : decode cX12_init 206 = .ok (.bipush 16, 2) := by decide +kernel
theorem dX12_init_208 : decode cX12_init 208 = .ok (.newarray .char, 2) := by decide +kernel
theorem dX12_init_210 : decode cX12_init 210 = .ok (.putfield 85, 3) := by decide +kernel
theorem dX12_init_213 : decode cX12_init 213 = .ok (.aload_n 0, 1) := by decide +kernel
theorem dX12_init_214 : decode cX12_init 214 = .ok (.iconst 0, 1) := by decide +kernel
theorem dX12_init_215 : decode cX12_init 215 = .ok (.invokevirtual 88, 3) := by decide +kernel
theorem dX12_init_218 : decode cX12_init 218 = .ok (.aload_n 0, 1) := by decide +kernel
theorem dX12_init_219 : decode cX12_init 219 = .ok (.iconst 0, 1) := by decide +kernel
theorem dX12_init_220 : decode cX12_init 220 = .ok (.invokevirtual 92, 3) := by decide +kernel
theorem dX12_init_223 : decode cX12_init 223 = .ok (.aload_n 0, 1) := by decide +kernel
theorem dX12_init_224 : decode cX12_init 224 = .ok (.iconst 0, 1) := by decide +kernel
theorem dX12_init_225 : decode cX12_init 225 = .ok (.iconst 0, 1) := by decide +kernel
theorem dX12_init_226 : decode cX12_init 226 = .ok (.invokevirtual 95, 3) := by decide +kernel
theorem dX12_init_229 : decode cX12_init 229 = .ok (.return_, 1) := by decide +kernel
theorem dX12_kind_0 : decode cX12_kind 0 = .ok (.iload_n 0, 1) := by decide +kernel
theorem dX12_kind_1 : decode cX12_kind 1 = .ok (.bipush 7, 2) := by decide +kernel
theorem dX12_kind_3 : decode cX12_kind 3 = .ok (.iand, 1) := by decide +kernel
theorem dX12_kind_4 : decode cX12_kind 4 = .ok (.ireturn, 1) := by decide +kernel
theorem dX12_sideOf_0 : decode cX12_sideOf 0 = .ok (.iload_n 0, 1) := by decide +kernel
theorem dX12_sideOf_1 : decode cX12_sideOf 1 = .ok (.ifCond .ne 7, 3) := by decide +kernel
theorem dX12_sideOf_4 : decode cX12_sideOf 4 = .ok (.iconst (-1), 1) := by decide +kernel
theorem dX12_sideOf_5 : decode cX12_sideOf 5 = .ok (.goto 6, 3) := by decide +kernel
theorem dX12_sideOf_8 : decode cX12_sideOf 8 = .ok (.iload_n 0, 1) := by decide +kernel
theorem dX12_sideOf_9 : decode cX12_sideOf 9 = .ok (.iconst 3, 1) := by decide +kernel
theorem dX12_sideOf_10 : decode cX12_sideOf 10 = .ok (.ishr, 1) := by decide +kernel
theorem dX12_sideOf_11 : decode cX12_sideOf 11 = .ok (.ireturn, 1) := by decide +kernel
theorem dX12_step_0 : decode cX12_step 0 = .ok (.iload_n 0, 1) := by decide +kernel
theorem dX12_step_1 : decode cX12_step 1 = .ok (.bipush 8, 2) := by decide +kernel
theorem dX12_step_3 : decode cX12_step 3 = .ok (.irem, 1) := by decide +kernel
theorem dX12_step_4 : decode cX12_step 4 = .ok (.iload_n 1, 1) := by decide +kernel
theorem dX12_step_5 : decode cX12_step 5 = .ok (.iadd, 1) := by decide +kernel
theorem dX12_step_6 : decode cX12_step 6 = .ok (.istore_n 3, 1) := by decide +kernel
theorem dX12_step_7 : decode cX12_step 7 = .ok (.iload_n 0, 1) := by decide +kernel
theorem dX12_step_8 : decode cX12_step 8 = .ok (.bipush 8, 2) := by decide +kernel
theorem dX12_step_10 : decode cX12_step 10 = .ok (.idiv, 1) := by decide +kernel
theorem dX12_step_11 : decode cX12_step 11 = .ok (.iload_n 2, 1) := by decide +kernel
theorem dX12_step_12 : decode cX12_step 12 = .ok (.iadd, 1) := by decide +kernel
theorem dX12_step_13 : decode cX12_step 13 = .ok (.istore 4, 2) := by decide +kernel
theorem dX12_step_15 : decode cX12_step 15 = .ok (.iload_n 3, 1) := by decide +kernel
theorem dX12_step_16 : decode cX12_step 16 = .ok (.ifCond .lt 31, 3) := by decide +kernel
theorem dX12_step_19 : decode cX12_step 19 = .ok (.iload_n 3, 1) := by decide +kernel
theorem dX12_step_20 : decode cX12_step 20 = .ok (.bipush 8, 2) := by decide +kernel
theorem dX12_step_22 : decode cX12_step 22 = .ok (.if_icmp .ge 25, 3) := by decide +kernel
theorem dX12_step_25 : decode cX12_step 25 = .ok (.iload 4, 2) := by decide +kernel
theorem dX12_step_27 : decode cX12_step 27 = .ok (.ifCond .lt 20, 3) := by decide +kernel
theorem dX12_step_30 : decode cX12_step 30 = .ok (.iload 4, 2) := by decide +kernel
theorem dX12_step_32 : decode cX12_step 32 = .ok (.bipush 8, 2) := by decide +kernel
theorem dX12_step_34 : decode cX12_step 34 = .ok (.if_icmp .ge 13, 3) := by decide +kernel
theorem dX12_step_37 : decode cX12_step 37 = .ok (.bipush 8, 2) := by decide +kernel
theorem dX12_step_39 : decode cX12_step 39 = .ok (.iload 4, 2) := by decide +kernel
theorem dX12_step_41 : decode cX12_step 41 = .ok (.imul, 1) := by decide +kernel
theorem dX12_step_42 : decode cX12_step 42 = .ok (.iload_n 3, 1) := by decide +kernel
theorem dX12_step_43 : decode cX12_step 43 = .ok (.iadd, 1) := by decide +kernel
theorem dX12_step_44 : decode cX12_step 44 = .ok (.goto 4, 3) := by decide +kernel
theorem dX12_step_47 : decode cX12_step 47 = .ok (.iconst (-1), 1) := by decide +kernel
theorem dX12_step_48 : decode cX12_step 48 = .ok (.ireturn, 1) := by decide +kernel
theorem dX12_stands_0 : decode cX12_stands 0 = .ok (.iload_n 1, 1) := by decide +kernel
theorem dX12_stands_1 : decode cX12_stands 1 = .ok (.ifCond .lt 17, 3) := by decide +kernel
theorem dX12_stands_4 : decode cX12_stands 4 = .ok (.aload_n 0, 1) := by decide +kernel
theorem dX12_stands_5 : decode cX12_stands 5 = .ok (.getfield 70, 3) := by decide +kernel
theorem dX12_stands_8 : decode cX12_stands 8 = .ok (.iload_n 1, 1) := by decide +kernel
theorem dX12_stands_9 : decode cX12_stands 9 = .ok (.iaload, 1) := by decide +kernel
theorem dX12_stands_10 : decode cX12_stands 10 = .ok (.iload_n 2, 1) := by decide +kernel
theorem dX12_stands_11 : decode cX12_stands 11 = .ok (.if_icmp .ne 7, 3) := by decide +kernel
theorem dX12_stands_14 : decode cX12_stands 14 = .ok (.iconst 1, 1) := by decide +kernel
theorem dX12_stands_15 : decode cX12_stands 15 = .ok (.goto 4, 3) := by decide +kernel
theorem dX12_stands_18 : decode cX12_stands 18 = .ok (.iconst 0, 1) := by decide +kernel
theorem dX12_stands_19 : decode cX12_stands 19 = .ok (.ireturn, 1) := by decide +kernel
theorem dX12_met_0 : decode cX12_met 0 = .ok (.iload_n 1, 1) := by decide +kernel
theorem dX12_met_1 : decode cX12_met 1 = .ok (.iload_n 2, 1) := by decide +kernel
theorem dX12_met_2 : decode cX12_met 2 = .ok (.iload_n 3, 1) := by decide +kernel
theorem dX12_met_3 : decode cX12_met 3 = .ok (.invokestatic 103, 3) := by decide +kernel
theorem dX12_met_6 : decode cX12_met 6 = .ok (.istore 4, 2) := by decide +kernel
theorem dX12_met_8 : decode cX12_met 8 = .ok (.iload 4, 2) := by decide +kernel
theorem dX12_met_10 : decode cX12_met 10 = .ok (.ifCond .lt 25, 3) := by decide +kernel
theorem dX12_met_13 : decode cX12_met 13 = .ok (.aload_n 0, 1) := by decide +kernel
theorem dX12_met_14 : decode cX12_met 14 = .ok (.getfield 70, 3) := by decide +kernel
theorem dX12_met_17 : decode cX12_met 17 = .ok (.iload 4, 2) := by decide +kernel
theorem dX12_met_19 : decode cX12_met 19 = .ok (.iaload, 1) := by decide +kernel
theorem dX12_met_20 : decode cX12_met 20 = .ok (.ifCond .ne 15, 3) := by decide +kernel
theorem dX12_met_23 : decode cX12_met 23 = .ok (.iload 4, 2) := by decide +kernel
theorem dX12_met_25 : decode cX12_met 25 = .ok (.iload_n 2, 1) := by decide +kernel
theorem dX12_met_26 : decode cX12_met 26 = .ok (.iload_n 3, 1) := by decide +kernel
theorem dX12_met_27 : decode cX12_met 27 = .ok (.invokestatic 103, 3) := by decide +kernel
theorem dX12_met_30 : decode cX12_met 30 = .ok (.istore 4, 2) := by decide +kernel
theorem dX12_met_32 : decode cX12_met 32 = .ok (.goto (-24), 3) := by decide +kernel
theorem dX12_met_35 : decode cX12_met 35 = .ok (.iload 4, 2) := by decide +kernel
theorem dX12_met_37 : decode cX12_met 37 = .ok (.ifCond .ge 7, 3) := by decide +kernel
theorem dX12_met_40 : decode cX12_met 40 = .ok (.iconst 0, 1) := by decide +kernel
theorem dX12_met_41 : decode cX12_met 41 = .ok (.goto 10, 3) := by decide +kernel
theorem dX12_met_44 : decode cX12_met 44 = .ok (.aload_n 0, 1) := by decide +kernel
theorem dX12_met_45 : decode cX12_met 45 = .ok (.getfield 70, 3) := by decide +kernel
theorem dX12_met_48 : decode cX12_met 48 = .ok (.iload 4, 2) := by decide +kernel
theorem dX12_met_50 : decode cX12_met 50 = .ok (.iaload, 1) := by decide +kernel
theorem dX12_met_51 : decode cX12_met 51 = .ok (.ireturn, 1) := by decide +kernel
theorem dX12_isAttacked_0 : decode cX12_isAttacked 0 = .ok (.bipush 8, 2) := by decide +kernel
theorem dX12_isAttacked_2 : decode cX12_isAttacked 2 = .ok (.iload_n 2, 1) := by decide +kernel
theorem dX12_isAttacked_3 : decode cX12_isAttacked 3 = .ok (.imul, 1) := by decide +kernel
theorem dX12_isAttacked_4 : decode cX12_isAttacked 4 = .ok (.istore_n 3, 1) := by decide +kernel
theorem dX12_isAttacked_5 : decode cX12_isAttacked 5 = .ok (.iload_n 2, 1) := by decide +kernel
theorem dX12_isAttacked_6 : decode cX12_isAttacked 6 = .ok (.ifCond .ne 7, 3) := by decide +kernel
theorem dX12_isAttacked_9 : decode cX12_isAttacked 9 = .ok (.iconst (-1), 1) := by decide +kernel
theorem dX12_isAttacked_10 : decode cX12_isAttacked 10 = .ok (.goto 4, 3) := by decide +kernel
theorem dX12_isAttacked_13 : decode cX12_isAttacked 13 = .ok (.iconst 1, 1) := by decide +kernel
theorem dX12_isAttacked_14 : decode cX12_isAttacked 14 = .ok (.istore 4, 2) := by decide +kernel
theorem dX12_isAttacked_16 : decode cX12_isAttacked 16 = .ok (.aload_n 0, 1) := by decide +kernel
theorem dX12_isAttacked_17 : decode cX12_isAttacked 17 = .ok (.iload_n 1, 1) := by decide +kernel
theorem dX12_isAttacked_18 : decode cX12_isAttacked 18 = .ok (.iconst (-1), 1) := by decide +kernel
theorem dX12_isAttacked_19 : decode cX12_isAttacked 19 = .ok (.iload 4, 2) := by decide +kernel
theorem dX12_isAttacked_21 : decode cX12_isAttacked 21 = .ok (.invokestatic 103, 3) := by decide +kernel
theorem dX12_isAttacked_24 : decode cX12_isAttacked 24 = .ok (.iconst 1, 1) := by decide +kernel
theorem dX12_isAttacked_25 : decode cX12_isAttacked 25 = .ok (.iload_n 3, 1) := by decide +kernel
theorem dX12_isAttacked_26 : decode cX12_isAttacked 26 = .ok (.iadd, 1) := by decide +kernel
theorem dX12_isAttacked_27 : decode cX12_isAttacked 27 = .ok (.invokevirtual 107, 3) := by decide +kernel
theorem dX12_isAttacked_30 : decode cX12_isAttacked 30 = .ok (.ifCond .ne 20, 3) := by decide +kernel
theorem dX12_isAttacked_33 : decode cX12_isAttacked 33 = .ok (.aload_n 0, 1) := by decide +kernel
theorem dX12_isAttacked_34 : decode cX12_isAttacked 34 = .ok (.iload_n 1, 1) := by decide +kernel
theorem dX12_isAttacked_35 : decode cX12_isAttacked 35 = .ok (.iconst 1, 1) := by decide +kernel
theorem dX12_isAttacked_36 : decode cX12_isAttacked 36 = .ok (.iload 4, 2) := by decide +kernel
theorem dX12_isAttacked_38 : decode cX12_isAttacked 38 = .ok (.invokestatic 103, 3) := by decide +kernel
theorem dX12_isAttacked_41 : decode cX12_isAttacked 41 = .ok (.iconst 1, 1) := by decide +kernel
theorem dX12_isAttacked_42 : decode cX12_isAttacked 42 = .ok (.iload_n 3, 1) := by decide +kernel
theorem dX12_isAttacked_43 : decode cX12_isAttacked 43 = .ok (.iadd, 1) := by decide +kernel
theorem dX12_isAttacked_44 : decode cX12_isAttacked 44 = .ok (.invokevirtual 107, 3) := by decide +kernel
theorem dX12_isAttacked_47 : decode cX12_isAttacked 47 = .ok (.ifCond .eq 7, 3) := by decide +kernel
theorem dX12_isAttacked_50 : decode cX12_isAttacked 50 = .ok (.iconst 1, 1) := by decide +kernel
theorem dX12_isAttacked_51 : decode cX12_isAttacked 51 = .ok (.goto 4, 3) := by decide +kernel
theorem dX12_isAttacked_54 : decode cX12_isAttacked 54 = .ok (.iconst 0, 1) := by decide +kernel
theorem dX12_isAttacked_55 : decode cX12_isAttacked 55 = .ok (.istore 5, 2) := by decide +kernel
theorem dX12_isAttacked_57 : decode cX12_isAttacked 57 = .ok (.bipush (-2), 2) := by decide +kernel
theorem dX12_isAttacked_59 : decode cX12_isAttacked 59 = .ok (.istore 6, 2) := by decide +kernel
theorem dX12_isAttacked_61 : decode cX12_isAttacked 61 = .ok (.iload 6, 2) := by decide +kernel
theorem dX12_isAttacked_63 : decode cX12_isAttacked 63 = .ok (.iconst 3, 1) := by decide +kernel
theorem dX12_isAttacked_64 : decode cX12_isAttacked 64 = .ok (.if_icmp .ge 165, 3) := by decide +kernel
theorem dX12_isAttacked_67 : decode cX12_isAttacked 67 = .ok (.bipush (-2), 2) := by decide +kernel
theorem dX12_isAttacked_69 : decode cX12_isAttacked 69 = .ok (.istore 7, 2) := by decide +kernel
theorem dX12_isAttacked_71 : decode cX12_isAttacked 71 = .ok (.iload 7, 2) := by decide +kernel
theorem dX12_isAttacked_73 : decode cX12_isAttacked 73 = .ok (.iconst 3, 1) := by decide +kernel
theorem dX12_isAttacked_74 : decode cX12_isAttacked 74 = .ok (.if_icmp .ge 149, 3) := by decide +kernel
theorem dX12_isAttacked_77 : decode cX12_isAttacked 77 = .ok (.iload 6, 2) := by decide +kernel
theorem dX12_isAttacked_79 : decode cX12_isAttacked 79 = .ok (.iload 6, 2) := by decide +kernel
theorem dX12_isAttacked_81 : decode cX12_isAttacked 81 = .ok (.imul, 1) := by decide +kernel
theorem dX12_isAttacked_82 : decode cX12_isAttacked 82 = .ok (.iload 7, 2) := by decide +kernel
theorem dX12_isAttacked_84 : decode cX12_isAttacked 84 = .ok (.iload 7, 2) := by decide +kernel
theorem dX12_isAttacked_86 : decode cX12_isAttacked 86 = .ok (.imul, 1) := by decide +kernel
theorem dX12_isAttacked_87 : decode cX12_isAttacked 87 = .ok (.iadd, 1) := by decide +kernel
theorem dX12_isAttacked_88 : decode cX12_isAttacked 88 = .ok (.istore 8, 2) := by decide +kernel
theorem dX12_isAttacked_90 : decode cX12_isAttacked 90 = .ok (.iload 5, 2) := by decide +kernel
theorem dX12_isAttacked_92 : decode cX12_isAttacked 92 = .ok (.ifCond .ne 57, 3) := by decide +kernel
theorem dX12_isAttacked_95 : decode cX12_isAttacked 95 = .ok (.iload 8, 2) := by decide +kernel
theorem dX12_isAttacked_97 : decode cX12_isAttacked 97 = .ok (.iconst 5, 1) := by decide +kernel
theorem dX12_isAttacked_98 : decode cX12_isAttacked 98 = .ok (.if_icmp .ne 21, 3) := by decide +kernel
theorem dX12_isAttacked_101 : decode cX12_isAttacked 101 = .ok (.aload_n 0, 1) := by decide +kernel
theorem dX12_isAttacked_102 : decode cX12_isAttacked 102 = .ok (.iload_n 1, 1) := by decide +kernel
theorem dX12_isAttacked_103 : decode cX12_isAttacked 103 = .ok (.iload 6, 2) := by decide +kernel
theorem dX12_isAttacked_105 : decode cX12_isAttacked 105 = .ok (.iload 7, 2) := by decide +kernel
theorem dX12_isAttacked_107 : decode cX12_isAttacked 107 = .ok (.invokestatic 103, 3) := by decide +kernel
theorem dX12_isAttacked_110 : decode cX12_isAttacked 110 = .ok (.iconst 2, 1) := by decide +kernel
theorem dX12_isAttacked_111 : decode cX12_isAttacked 111 = .ok (.iload_n 3, 1) := by decide +kernel
theorem dX12_isAttacked_112 : decode cX12_isAttacked 112 = .ok (.iadd, 1) := by decide +kernel
theorem dX12_isAttacked_113 : decode cX12_isAttacked 113 = .ok (.invokevirtual 107, 3) := by decide +kernel
theorem dX12_isAttacked_116 : decode cX12_isAttacked 116 = .ok (.ifCond .ne 33, 3) := by decide +kernel
theorem dX12_isAttacked_119 : decode cX12_isAttacked 119 = .ok (.iload 8, 2) := by decide +kernel
theorem dX12_isAttacked_121 : decode cX12_isAttacked 121 = .ok (.ifCond .le 32, 3) := by decide +kernel
theorem dX12_isAttacked_124 : decode cX12_isAttacked 124 = .ok (.iload 8, 2) := by decide +kernel
theorem dX12_isAttacked_126 : decode cX12_isAttacked 126 = .ok (.iconst 3, 1) := by decide +kernel
theorem dX12_isAttacked_127 : decode cX12_isAttacked 127 = .ok (.if_icmp .ge 26, 3) := by decide +kernel
theorem dX12_isAttacked_130 : decode cX12_isAttacked 130 = .ok (.aload_n 0, 1) := by decide +kernel
theorem dX12_isAttacked_131 : decode cX12_isAttacked 131 = .ok (.iload_n 1, 1) := by decide +kernel
theorem dX12_isAttacked_132 : decode cX12_isAttacked 132 = .ok (.iload 6, 2) := by decide +kernel
theorem dX12_isAttacked_134 : decode cX12_isAttacked 134 = .ok (.iload 7, 2) := by decide +kernel
theorem dX12_isAttacked_136 : decode cX12_isAttacked 136 = .ok (.invokestatic 103, 3) := by decide +kernel
theorem dX12_isAttacked_139 : decode cX12_isAttacked 139 = .ok (.bipush 6, 2) := by decide +kernel
theorem dX12_isAttacked_141 : decode cX12_isAttacked 141 = .ok (.iload_n 3, 1) := by decide +kernel
theorem dX12_isAttacked_142 : decode cX12_isAttacked 142 = .ok (.iadd, 1) := by decide +kernel
theorem dX12_isAttacked_143 : decode cX12_isAttacked 143 = .ok (.invokevirtual 107, 3) := by decide +kernel
theorem dX12_isAttacked_146 : decode cX12_isAttacked 146 = .ok (.ifCond .eq 7, 3) := by decide +kernel
theorem dX12_isAttacked_149 : decode cX12_isAttacked 149 = .ok (.iconst 1, 1) := by decide +kernel
theorem dX12_isAttacked_150 : decode cX12_isAttacked 150 = .ok (.goto 4, 3) := by decide +kernel
theorem dX12_isAttacked_153 : decode cX12_isAttacked 153 = .ok (.iconst 0, 1) := by decide +kernel
theorem dX12_isAttacked_154 : decode cX12_isAttacked 154 = .ok (.istore 5, 2) := by decide +kernel
theorem dX12_isAttacked_156 : decode cX12_isAttacked 156 = .ok (.iload 8, 2) := by decide +kernel
theorem dX12_isAttacked_158 : decode cX12_isAttacked 158 = .ok (.iconst 1, 1) := by decide +kernel
theorem dX12_isAttacked_159 : decode cX12_isAttacked 159 = .ok (.if_icmp .eq 9, 3) := by decide +kernel
theorem dX12_isAttacked_162 : decode cX12_isAttacked 162 = .ok (.iload 8, 2) := by decide +kernel
theorem dX12_isAttacked_164 : decode cX12_isAttacked 164 = .ok (.iconst 2, 1) := by decide +kernel
theorem dX12_isAttacked_165 : decode cX12_isAttacked 165 = .ok (.if_icmp .ne 52, 3) := by decide +kernel
theorem dX12_isAttacked_168 : decode cX12_isAttacked 168 = .ok (.aload_n 0, 1) := by decide +kernel
theorem dX12_isAttacked_169 : decode cX12_isAttacked 169 = .ok (.iload_n 1, 1) := by decide +kernel
theorem dX12_isAttacked_170 : decode cX12_isAttacked 170 = .ok (.iload 6, 2) := by decide +kernel
theorem dX12_isAttacked_172 : decode cX12_isAttacked 172 = .ok (.iload 7, 2) := by decide +kernel
theorem dX12_isAttacked_174 : decode cX12_isAttacked 174 = .ok (.invokevirtual 111, 3) := by decide +kernel
theorem dX12_isAttacked_177 : decode cX12_isAttacked 177 = .ok (.istore 9, 2) := by decide +kernel
theorem dX12_isAttacked_179 : decode cX12_isAttacked 179 = .ok (.iload 5, 2) := by decide +kernel
theorem dX12_isAttacked_181 : decode cX12_isAttacked 181 = .ok (.ifCond .ne 29, 3) := by decide +kernel
theorem dX12_isAttacked_184 : decode cX12_isAttacked 184 = .ok (.iload 9, 2) := by decide +kernel
theorem dX12_isAttacked_186 : decode cX12_isAttacked 186 = .ok (.iconst 5, 1) := by decide +kernel
theorem dX12_isAttacked_187 : decode cX12_isAttacked 187 = .ok (.iload_n 3, 1) := by decide +kernel
theorem dX12_isAttacked_188 : decode cX12_isAttacked 188 = .ok (.iadd, 1) := by decide +kernel
theorem dX12_isAttacked_189 : decode cX12_isAttacked 189 = .ok (.if_icmp .eq 21, 3) := by decide +kernel
theorem dX12_isAttacked_192 : decode cX12_isAttacked 192 = .ok (.iload 9, 2) := by decide +kernel
theorem dX12_isAttacked_194 : decode cX12_isAttacked 194 = .ok (.iload 8, 2) := by decide +kernel
theorem dX12_isAttacked_196 : decode cX12_isAttacked 196 = .ok (.iconst 1, 1) := by decide +kernel
theorem dX12_isAttacked_197 : decode cX12_isAttacked 197 = .ok (.if_icmp .ne 7, 3) := by decide +kernel
theorem dX12_isAttacked_200 : decode cX12_isAttacked 200 = .ok (.iconst 4, 1) := by decide +kernel
theorem dX12_isAttacked_201 : decode cX12_isAttacked 201 = .ok (.goto 4, 3) := by decide +kernel
theorem dX12_isAttacked_204 : decode cX12_isAttacked 204 = .ok (.iconst 3, 1) := by decide +kernel
theorem dX12_isAttacked_205 : decode cX12_isAttacked 205 = .ok (.iload_n 3, 1) := by decide +kernel
theorem dX12_isAttacked_206 : decode cX12_isAttacked 206 = .ok (.iadd, 1) := by decide +kernel
theorem dX12_isAttacked_207 : decode cX12_isAttacked 207 = .ok (.if_icmp .ne 7, 3) := by decide +kernel
theorem dX12_isAttacked_210 : decode cX12_isAttacked 210 = .ok (.iconst 1, 1) := by decide +kernel
theorem dX12_isAttacked_211 : decode cX12_isAttacked 211 = .ok (.goto 4, 3) := by decide +kernel
theorem dX12_isAttacked_214 : decode cX12_isAttacked 214 = .ok (.iconst 0, 1) := by decide +kernel
theorem dX12_isAttacked_215 : decode cX12_isAttacked 215 = .ok (.istore 5, 2) := by decide +kernel
theorem dX12_isAttacked_217 : decode cX12_isAttacked 217 = .ok (.iinc 7 1, 3) := by decide +kernel
theorem dX12_isAttacked_220 : decode cX12_isAttacked 220 = .ok (.goto (-149), 3) := by decide +kernel
theorem dX12_isAttacked_223 : decode cX12_isAttacked 223 = .ok (.iinc 6 1, 3) := by decide +kernel
theorem dX12_isAttacked_226 : decode cX12_isAttacked 226 = .ok (.goto (-165), 3) := by decide +kernel
theorem dX12_isAttacked_229 : decode cX12_isAttacked 229 = .ok (.iload 5, 2) := by decide +kernel
theorem dX12_isAttacked_231 : decode cX12_isAttacked 231 = .ok (.ireturn, 1) := by decide +kernel
theorem dX12_kingOf_0 : decode cX12_kingOf 0 = .ok (.iconst 0, 1) := by decide +kernel
theorem dX12_kingOf_1 : decode cX12_kingOf 1 = .ok (.istore_n 2, 1) := by decide +kernel
theorem dX12_kingOf_2 : decode cX12_kingOf 2 = .ok (.iconst 0, 1) := by decide +kernel
theorem dX12_kingOf_3 : decode cX12_kingOf 3 = .ok (.istore_n 3, 1) := by decide +kernel
theorem dX12_kingOf_4 : decode cX12_kingOf 4 = .ok (.iload_n 3, 1) := by decide +kernel
theorem dX12_kingOf_5 : decode cX12_kingOf 5 = .ok (.bipush 64, 2) := by decide +kernel
theorem dX12_kingOf_7 : decode cX12_kingOf 7 = .ok (.if_icmp .ge 31, 3) := by decide +kernel
theorem dX12_kingOf_10 : decode cX12_kingOf 10 = .ok (.aload_n 0, 1) := by decide +kernel
theorem dX12_kingOf_11 : decode cX12_kingOf 11 = .ok (.getfield 70, 3) := by decide +kernel
theorem dX12_kingOf_14 : decode cX12_kingOf 14 = .ok (.iload_n 3, 1) := by decide +kernel
theorem dX12_kingOf_15 : decode cX12_kingOf 15 = .ok (.iaload, 1) := by decide +kernel
theorem dX12_kingOf_16 : decode cX12_kingOf 16 = .ok (.bipush 6, 2) := by decide +kernel
theorem dX12_kingOf_18 : decode cX12_kingOf 18 = .ok (.bipush 8, 2) := by decide +kernel
theorem dX12_kingOf_20 : decode cX12_kingOf 20 = .ok (.iload_n 1, 1) := by decide +kernel
theorem dX12_kingOf_21 : decode cX12_kingOf 21 = .ok (.imul, 1) := by decide +kernel
theorem dX12_kingOf_22 : decode cX12_kingOf 22 = .ok (.iadd, 1) := by decide +kernel
theorem dX12_kingOf_23 : decode cX12_kingOf 23 = .ok (.if_icmp .ne 7, 3) := by decide +kernel
theorem dX12_kingOf_26 : decode cX12_kingOf 26 = .ok (.iload_n 3, 1) := by decide +kernel
theorem dX12_kingOf_27 : decode cX12_kingOf 27 = .ok (.goto 4, 3) := by decide +kernel
theorem dX12_kingOf_30 : decode cX12_kingOf 30 = .ok (.iload_n 2, 1) := by decide +kernel
theorem dX12_kingOf_31 : decode cX12_kingOf 31 = .ok (.istore_n 2, 1) := by decide +kernel
theorem dX12_kingOf_32 : decode cX12_kingOf 32 = .ok (.iinc 3 1, 3) := by decide +kernel
theorem dX12_kingOf_35 : decode cX12_kingOf 35 = .ok (.goto (-31), 3) := by decide +kernel
theorem dX12_kingOf_38 : decode cX12_kingOf 38 = .ok (.iload_n 2, 1) := by decide +kernel
theorem dX12_kingOf_39 : decode cX12_kingOf 39 = .ok (.ireturn, 1) := by decide +kernel
theorem dX12_isInCheck_0 : decode cX12_isInCheck 0 = .ok (.aload_n 0, 1) := by decide +kernel
theorem dX12_isInCheck_1 : decode cX12_isInCheck 1 = .ok (.aload_n 0, 1) := by decide +kernel
theorem dX12_isInCheck_2 : decode cX12_isInCheck 2 = .ok (.iload_n 1, 1) := by decide +kernel
theorem dX12_isInCheck_3 : decode cX12_isInCheck 3 = .ok (.invokevirtual 114, 3) := by decide +kernel
theorem dX12_isInCheck_6 : decode cX12_isInCheck 6 = .ok (.iconst 1, 1) := by decide +kernel
theorem dX12_isInCheck_7 : decode cX12_isInCheck 7 = .ok (.iload_n 1, 1) := by decide +kernel
theorem dX12_isInCheck_8 : decode cX12_isInCheck 8 = .ok (.isub, 1) := by decide +kernel
theorem dX12_isInCheck_9 : decode cX12_isInCheck 9 = .ok (.invokevirtual 118, 3) := by decide +kernel
theorem dX12_isInCheck_12 : decode cX12_isInCheck 12 = .ok (.ireturn, 1) := by decide +kernel
theorem dX12_keep_0 : decode cX12_keep 0 = .ok (.iconst 0, 1) := by decide +kernel
theorem dX12_keep_1 : decode cX12_keep 1 = .ok (.istore_n 1, 1) := by decide +kernel
theorem dX12_keep_2 : decode cX12_keep 2 = .ok (.iload_n 1, 1) := by decide +kernel
theorem dX12_keep_3 : decode cX12_keep 3 = .ok (.bipush 64, 2) := by decide +kernel
theorem dX12_keep_5 : decode cX12_keep 5 = .ok (.if_icmp .ge 21, 3) := by decide +kernel
theorem dX12_keep_8 : decode cX12_keep 8 = .ok (.aload_n 0, 1) := by decide +kernel
theorem dX12_keep_9 : decode cX12_keep 9 = .ok (.getfield 73, 3) := by decide +kernel
theorem dX12_keep_12 : decode cX12_keep 12 = .ok (.iload_n 1, 1) := by decide +kernel
theorem dX12_keep_13 : decode cX12_keep 13 = .ok (.aload_n 0, 1) := by decide +kernel
theorem dX12_keep_14 : decode cX12_keep 14 = .ok (.getfield 70, 3) := by decide +kernel
theorem dX12_keep_17 : decode cX12_keep 17 = .ok (.iload_n 1, 1) := by decide +kernel
theorem dX12_keep_18 : decode cX12_keep 18 = .ok (.iaload, 1) := by decide +kernel
theorem dX12_keep_19 : decode cX12_keep 19 = .ok (.iastore, 1) := by decide +kernel
theorem dX12_keep_20 : decode cX12_keep 20 = .ok (.iinc 1 1, 3) := by decide +kernel
theorem dX12_keep_23 : decode cX12_keep 23 = .ok (.goto (-21), 3) := by decide +kernel
theorem dX12_keep_26 : decode cX12_keep 26 = .ok (.aload_n 0, 1) := by decide +kernel
theorem dX12_keep_27 : decode cX12_keep 27 = .ok (.getfield 76, 3) := by decide +kernel
theorem dX12_keep_30 : decode cX12_keep 30 = .ok (.iconst 0, 1) := by decide +kernel
theorem dX12_keep_31 : decode cX12_keep 31 = .ok (.aload_n 0, 1) := by decide +kernel
theorem dX12_keep_32 : decode cX12_keep 32 = .ok (.getfield 121, 3) := by decide +kernel
theorem dX12_keep_35 : decode cX12_keep 35 = .ok (.iastore, 1) := by decide +kernel
theorem dX12_keep_36 : decode cX12_keep 36 = .ok (.aload_n 0, 1) := by decide +kernel
theorem dX12_keep_37 : decode cX12_keep 37 = .ok (.getfield 76, 3) := by decide +kernel
theorem dX12_keep_40 : decode cX12_keep 40 = .ok (.iconst 1, 1) := by decide +kernel
theorem dX12_keep_41 : decode cX12_keep 41 = .ok (.aload_n 0, 1) := by decide +kernel
theorem dX12_keep_42 : decode cX12_keep 42 = .ok (.getfield 124, 3) := by decide +kernel
theorem dX12_keep_45 : decode cX12_keep 45 = .ok (.iastore, 1) := by decide +kernel
theorem dX12_keep_46 : decode cX12_keep 46 = .ok (.aload_n 0, 1) := by decide +kernel
theorem dX12_keep_47 : decode cX12_keep 47 = .ok (.getfield 76, 3) := by decide +kernel
theorem dX12_keep_50 : decode cX12_keep 50 = .ok (.iconst 2, 1) := by decide +kernel
theorem dX12_keep_51 : decode cX12_keep 51 = .ok (.aload_n 0, 1) := by decide +kernel
theorem dX12_keep_52 : decode cX12_keep 52 = .ok (.getfield 127, 3) := by decide +kernel
theorem dX12_keep_55 : decode cX12_keep 55 = .ok (.iastore, 1) := by decide +kernel
theorem dX12_keep_56 : decode cX12_keep 56 = .ok (.aload_n 0, 1) := by decide +kernel
theorem dX12_keep_57 : decode cX12_keep 57 = .ok (.getfield 76, 3) := by decide +kernel
theorem dX12_keep_60 : decode cX12_keep 60 = .ok (.iconst 3, 1) := by decide +kernel
theorem dX12_keep_61 : decode cX12_keep 61 = .ok (.aload_n 0, 1) := by decide +kernel
theorem dX12_keep_62 : decode cX12_keep 62 = .ok (.getfield 130, 3) := by decide +kernel
theorem dX12_keep_65 : decode cX12_keep 65 = .ok (.iastore, 1) := by decide +kernel
theorem dX12_keep_66 : decode cX12_keep 66 = .ok (.aload_n 0, 1) := by decide +kernel
theorem dX12_keep_67 : decode cX12_keep 67 = .ok (.getfield 76, 3) := by decide +kernel
theorem dX12_keep_70 : decode cX12_keep 70 = .ok (.iconst 4, 1) := by decide +kernel
theorem dX12_keep_71 : decode cX12_keep 71 = .ok (.aload_n 0, 1) := by decide +kernel
theorem dX12_keep_72 : decode cX12_keep 72 = .ok (.getfield 133, 3) := by decide +kernel
theorem dX12_keep_75 : decode cX12_keep 75 = .ok (.iastore, 1) := by decide +kernel
theorem dX12_keep_76 : decode cX12_keep 76 = .ok (.return_, 1) := by decide +kernel
theorem dX12_bringBack_0 : decode cX12_bringBack 0 = .ok (.iconst 0, 1) := by decide +kernel
theorem dX12_bringBack_1 : decode cX12_bringBack 1 = .ok (.istore_n 1, 1) := by decide +kernel
theorem dX12_bringBack_2 : decode cX12_bringBack 2 = .ok (.iload_n 1, 1) := by decide +kernel
theorem dX12_bringBack_3 : decode cX12_bringBack 3 = .ok (.bipush 64, 2) := by decide +kernel
theorem dX12_bringBack_5 : decode cX12_bringBack 5 = .ok (.if_icmp .ge 21, 3) := by decide +kernel
theorem dX12_bringBack_8 : decode cX12_bringBack 8 = .ok (.aload_n 0, 1) := by decide +kernel
theorem dX12_bringBack_9 : decode cX12_bringBack 9 = .ok (.getfield 70, 3) := by decide +kernel
theorem dX12_bringBack_12 : decode cX12_bringBack 12 = .ok (.iload_n 1, 1) := by decide +kernel
theorem dX12_bringBack_13 : decode cX12_bringBack 13 = .ok (.aload_n 0, 1) := by decide +kernel
theorem dX12_bringBack_14 : decode cX12_bringBack 14 = .ok (.getfield 73, 3) := by decide +kernel
theorem dX12_bringBack_17 : decode cX12_bringBack 17 = .ok (.iload_n 1, 1) := by decide +kernel
theorem dX12_bringBack_18 : decode cX12_bringBack 18 = .ok (.iaload, 1) := by decide +kernel
theorem dX12_bringBack_19 : decode cX12_bringBack 19 = .ok (.iastore, 1) := by decide +kernel
theorem dX12_bringBack_20 : decode cX12_bringBack 20 = .ok (.iinc 1 1, 3) := by decide +kernel
theorem dX12_bringBack_23 : decode cX12_bringBack 23 = .ok (.goto (-21), 3) := by decide +kernel
theorem dX12_bringBack_26 : decode cX12_bringBack 26 = .ok (.aload_n 0, 1) := by decide +kernel
theorem dX12_bringBack_27 : decode cX12_bringBack 27 = .ok (.aload_n 0, 1) := by decide +kernel
theorem dX12_bringBack_28 : decode cX12_bringBack 28 = .ok (.getfield 76, 3) := by decide +kernel
theorem dX12_bringBack_31 : decode cX12_bringBack 31 = .ok (.iconst 0, 1) := by decide +kernel
theorem dX12_bringBack_32 : decode cX12_bringBack 32 = .ok (.iaload, 1) := by decide +kernel
theorem dX12_bringBack_33 : decode cX12_bringBack 33 = .ok (.putfield 121, 3) := by decide +kernel
theorem dX12_bringBack_36 : decode cX12_bringBack 36 = .ok (.aload_n 0, 1) := by decide +kernel
theorem dX12_bringBack_37 : decode cX12_bringBack 37 = .ok (.aload_n 0, 1) := by decide +kernel
theorem dX12_bringBack_38 : decode cX12_bringBack 38 = .ok (.getfield 76, 3) := by decide +kernel
theorem dX12_bringBack_41 : decode cX12_bringBack 41 = .ok (.iconst 1, 1) := by decide +kernel
theorem dX12_bringBack_42 : decode cX12_bringBack 42 = .ok (.iaload, 1) := by decide +kernel
theorem dX12_bringBack_43 : decode cX12_bringBack 43 = .ok (.putfield 124, 3) := by decide +kernel
theorem dX12_bringBack_46 : decode cX12_bringBack 46 = .ok (.aload_n 0, 1) := by decide +kernel
theorem dX12_bringBack_47 : decode cX12_bringBack 47 = .ok (.aload_n 0, 1) := by decide +kernel
theorem dX12_bringBack_48 : decode cX12_bringBack 48 = .ok (.getfield 76, 3) := by decide +kernel
theorem dX12_bringBack_51 : decode cX12_bringBack 51 = .ok (.iconst 2, 1) := by decide +kernel
theorem dX12_bringBack_52 : decode cX12_bringBack 52 = .ok (.iaload, 1) := by decide +kernel
theorem dX12_bringBack_53 : decode cX12_bringBack 53 = .ok (.putfield 127, 3) := by decide +kernel
theorem dX12_bringBack_56 : decode cX12_bringBack 56 = .ok (.aload_n 0, 1) := by decide +kernel
theorem dX12_bringBack_57 : decode cX12_bringBack 57 = .ok (.aload_n 0, 1) := by decide +kernel
theorem dX12_bringBack_58 : decode cX12_bringBack 58 = .ok (.getfield 76, 3) := by decide +kernel
theorem dX12_bringBack_61 : decode cX12_bringBack 61 = .ok (.iconst 3, 1) := by decide +kernel
theorem dX12_bringBack_62 : decode cX12_bringBack 62 = .ok (.iaload, 1) := by decide +kernel
theorem dX12_bringBack_63 : decode cX12_bringBack 63 = .ok (.putfield 130, 3) := by decide +kernel
theorem dX12_bringBack_66 : decode cX12_bringBack 66 = .ok (.aload_n 0, 1) := by decide +kernel
theorem dX12_bringBack_67 : decode cX12_bringBack 67 = .ok (.aload_n 0, 1) := by decide +kernel
theorem dX12_bringBack_68 : decode cX12_bringBack 68 = .ok (.getfield 76, 3) := by decide +kernel
theorem dX12_bringBack_71 : decode cX12_bringBack 71 = .ok (.iconst 4, 1) := by decide +kernel
theorem dX12_bringBack_72 : decode cX12_bringBack 72 = .ok (.iaload, 1) := by decide +kernel
theorem dX12_bringBack_73 : decode cX12_bringBack 73 = .ok (.putfield 133, 3) := by decide +kernel
theorem dX12_bringBack_76 : decode cX12_bringBack 76 = .ok (.return_, 1) := by decide +kernel
theorem dX12_lose_0 : decode cX12_lose 0 = .ok (.iload_n 1, 1) := by decide +kernel
theorem dX12_lose_1 : decode cX12_lose 1 = .ok (.iconst 4, 1) := by decide +kernel
theorem dX12_lose_2 : decode cX12_lose 2 = .ok (.if_icmp .ne 7, 3) := by decide +kernel
theorem dX12_lose_5 : decode cX12_lose 5 = .ok (.iconst 3, 1) := by decide +kernel
theorem dX12_lose_6 : decode cX12_lose 6 = .ok (.goto 54, 3) := by decide +kernel
theorem dX12_lose_9 : decode cX12_lose 9 = .ok (.iload_n 1, 1) := by decide +kernel
theorem dX12_lose_10 : decode cX12_lose 10 = .ok (.bipush 7, 2) := by decide +kernel
theorem dX12_lose_12 : decode cX12_lose 12 = .ok (.if_icmp .ne 7, 3) := by decide +kernel
theorem dX12_lose_15 : decode cX12_lose 15 = .ok (.iconst 1, 1) := by decide +kernel
theorem dX12_lose_16 : decode cX12_lose 16 = .ok (.goto 44, 3) := by decide +kernel
theorem dX12_lose_19 : decode cX12_lose 19 = .ok (.iload_n 1, 1) := by decide +kernel
theorem dX12_lose_20 : decode cX12_lose 20 = .ok (.ifCond .ne 7, 3) := by decide +kernel
theorem dX12_lose_23 : decode cX12_lose 23 = .ok (.iconst 2, 1) := by decide +kernel
theorem dX12_lose_24 : decode cX12_lose 24 = .ok (.goto 36, 3) := by decide +kernel
theorem dX12_lose_27 : decode cX12_lose 27 = .ok (.iload_n 1, 1) := by decide +kernel
theorem dX12_lose_28 : decode cX12_lose 28 = .ok (.bipush 60, 2) := by decide +kernel
theorem dX12_lose_30 : decode cX12_lose 30 = .ok (.if_icmp .ne 8, 3) := by decide +kernel
theorem dX12_lose_33 : decode cX12_lose 33 = .ok (.bipush 12, 2) := by decide +kernel
theorem dX12_lose_35 : decode cX12_lose 35 = .ok (.goto 25, 3) := by decide +kernel
theorem dX12_lose_38 : decode cX12_lose 38 = .ok (.iload_n 1, 1) := by decide +kernel
theorem dX12_lose_39 : decode cX12_lose 39 = .ok (.bipush 63, 2) := by decide +kernel
theorem dX12_lose_41 : decode cX12_lose 41 = .ok (.if_icmp .ne 7, 3) := by decide +kernel
theorem dX12_lose_44 : decode cX12_lose 44 = .ok (.iconst 4, 1) := by decide +kernel
theorem dX12_lose_45 : decode cX12_lose 45 = .ok (.goto 15, 3) := by decide +kernel
theorem dX12_lose_48 : decode cX12_lose 48 = .ok (.iload_n 1, 1) := by decide +kernel
theorem dX12_lose_49 : decode cX12_lose 49 = .ok (.bipush 56, 2) := by decide +kernel
theorem dX12_lose_51 : decode cX12_lose 51 = .ok (.if_icmp .ne 8, 3) := by decide +kernel
theorem dX12_lose_54 : decode cX12_lose 54 = .ok (.bipush 8, 2) := by decide +kernel
theorem dX12_lose_56 : decode cX12_lose 56 = .ok (.goto 4, 3) := by decide +kernel
theorem dX12_lose_59 : decode cX12_lose 59 = .ok (.iconst 0, 1) := by decide +kernel
theorem dX12_lose_60 : decode cX12_lose 60 = .ok (.istore_n 2, 1) := by decide +kernel
theorem dX12_lose_61 : decode cX12_lose 61 = .ok (.aload_n 0, 1) := by decide +kernel
theorem dX12_lose_62 : decode cX12_lose 62 = .ok (.aload_n 0, 1) := by decide +kernel
theorem dX12_lose_63 : decode cX12_lose 63 = .ok (.getfield 124, 3) := by decide +kernel
theorem dX12_lose_66 : decode cX12_lose 66 = .ok (.iload_n 2, 1) := by decide +kernel
theorem dX12_lose_67 : decode cX12_lose 67 = .ok (.iconst (-1), 1) := by decide +kernel
theorem dX12_lose_68 : decode cX12_lose 68 = .ok (.ixor, 1) := by decide +kernel
theorem dX12_lose_69 : decode cX12_lose 69 = .ok (.iand, 1) := by decide +kernel
theorem dX12_lose_70 : decode cX12_lose 70 = .ok (.putfield 124, 3) := by decide +kernel
theorem dX12_lose_73 : decode cX12_lose 73 = .ok (.return_, 1) := by decide +kernel
theorem dX12_isTaking_0 : decode cX12_isTaking 0 = .ok (.iload_n 1, 1) := by decide +kernel
theorem dX12_isTaking_1 : decode cX12_isTaking 1 = .ok (.bipush 64, 2) := by decide +kernel
theorem dX12_isTaking_3 : decode cX12_isTaking 3 = .ok (.irem, 1) := by decide +kernel
theorem dX12_isTaking_4 : decode cX12_isTaking 4 = .ok (.istore_n 2, 1) := by decide +kernel
theorem dX12_isTaking_5 : decode cX12_isTaking 5 = .ok (.iload_n 1, 1) := by decide +kernel
theorem dX12_isTaking_6 : decode cX12_isTaking 6 = .ok (.bipush 64, 2) := by decide +kernel
theorem dX12_isTaking_8 : decode cX12_isTaking 8 = .ok (.idiv, 1) := by decide +kernel
theorem dX12_isTaking_9 : decode cX12_isTaking 9 = .ok (.bipush 64, 2) := by decide +kernel
theorem dX12_isTaking_11 : decode cX12_isTaking 11 = .ok (.irem, 1) := by decide +kernel
theorem dX12_isTaking_12 : decode cX12_isTaking 12 = .ok (.istore_n 3, 1) := by decide +kernel
theorem dX12_isTaking_13 : decode cX12_isTaking 13 = .ok (.aload_n 0, 1) := by decide +kernel
theorem dX12_isTaking_14 : decode cX12_isTaking 14 = .ok (.getfield 70, 3) := by decide +kernel
theorem dX12_isTaking_17 : decode cX12_isTaking 17 = .ok (.iload_n 3, 1) := by decide +kernel
theorem dX12_isTaking_18 : decode cX12_isTaking 18 = .ok (.iaload, 1) := by decide +kernel
theorem dX12_isTaking_19 : decode cX12_isTaking 19 = .ok (.ifCond .ne 27, 3) := by decide +kernel
theorem dX12_isTaking_22 : decode cX12_isTaking 22 = .ok (.aload_n 0, 1) := by decide +kernel
theorem dX12_isTaking_23 : decode cX12_isTaking 23 = .ok (.getfield 70, 3) := by decide +kernel
theorem dX12_isTaking_26 : decode cX12_isTaking 26 = .ok (.iload_n 2, 1) := by decide +kernel
theorem dX12_isTaking_27 : decode cX12_isTaking 27 = .ok (.iaload, 1) := by decide +kernel
theorem dX12_isTaking_28 : decode cX12_isTaking 28 = .ok (.invokestatic 136, 3) := by decide +kernel
theorem dX12_isTaking_31 : decode cX12_isTaking 31 = .ok (.iconst 1, 1) := by decide +kernel
theorem dX12_isTaking_32 : decode cX12_isTaking 32 = .ok (.if_icmp .ne 18, 3) := by decide +kernel
theorem dX12_isTaking_35 : decode cX12_isTaking 35 = .ok (.iload_n 2, 1) := by decide +kernel
theorem dX12_isTaking_36 : decode cX12_isTaking 36 = .ok (.bipush 8, 2) := by decide +kernel
theorem dX12_isTaking_38 : decode cX12_isTaking 38 = .ok (.irem, 1) := by decide +kernel
theorem dX12_isTaking_39 : decode cX12_isTaking 39 = .ok (.iload_n 3, 1) := by decide +kernel
theorem dX12_isTaking_40 : decode cX12_isTaking 40 = .ok (.bipush 8, 2) := by decide +kernel
theorem dX12_isTaking_42 : decode cX12_isTaking 42 = .ok (.irem, 1) := by decide +kernel
theorem dX12_isTaking_43 : decode cX12_isTaking 43 = .ok (.if_icmp .eq 7, 3) := by decide +kernel
theorem dX12_isTaking_46 : decode cX12_isTaking 46 = .ok (.iconst 1, 1) := by decide +kernel
theorem dX12_isTaking_47 : decode cX12_isTaking 47 = .ok (.goto 4, 3) := by decide +kernel
theorem dX12_isTaking_50 : decode cX12_isTaking 50 = .ok (.iconst 0, 1) := by decide +kernel
theorem dX12_isTaking_51 : decode cX12_isTaking 51 = .ok (.ireturn, 1) := by decide +kernel
theorem dX12_make_0 : decode cX12_make 0 = .ok (.iload_n 1, 1) := by decide +kernel
theorem dX12_make_1 : decode cX12_make 1 = .ok (.bipush 64, 2) := by decide +kernel
theorem dX12_make_3 : decode cX12_make 3 = .ok (.irem, 1) := by decide +kernel
theorem dX12_make_4 : decode cX12_make 4 = .ok (.istore_n 2, 1) := by decide +kernel
theorem dX12_make_5 : decode cX12_make 5 = .ok (.iload_n 1, 1) := by decide +kernel
theorem dX12_make_6 : decode cX12_make 6 = .ok (.bipush 64, 2) := by decide +kernel
theorem dX12_make_8 : decode cX12_make 8 = .ok (.idiv, 1) := by decide +kernel
theorem dX12_make_9 : decode cX12_make 9 = .ok (.bipush 64, 2) := by decide +kernel
theorem dX12_make_11 : decode cX12_make 11 = .ok (.irem, 1) := by decide +kernel
theorem dX12_make_12 : decode cX12_make 12 = .ok (.istore_n 3, 1) := by decide +kernel
theorem dX12_make_13 : decode cX12_make 13 = .ok (.iload_n 1, 1) := by decide +kernel
theorem dX12_make_14 : decode cX12_make 14 = .ok (.sipush 4096, 3) := by decide +kernel
theorem dX12_make_17 : decode cX12_make 17 = .ok (.idiv, 1) := by decide +kernel
theorem dX12_make_18 : decode cX12_make 18 = .ok (.istore 4, 2) := by decide +kernel
theorem dX12_make_20 : decode cX12_make 20 = .ok (.aload_n 0, 1) := by decide +kernel
theorem dX12_make_21 : decode cX12_make 21 = .ok (.getfield 70, 3) := by decide +kernel
theorem dX12_make_24 : decode cX12_make 24 = .ok (.iload_n 2, 1) := by decide +kernel
theorem dX12_make_25 : decode cX12_make 25 = .ok (.iaload, 1) := by decide +kernel
theorem dX12_make_26 : decode cX12_make 26 = .ok (.istore 5, 2) := by decide +kernel
theorem dX12_make_28 : decode cX12_make 28 = .ok (.iload 5, 2) := by decide +kernel
theorem dX12_make_30 : decode cX12_make 30 = .ok (.invokestatic 136, 3) := by decide +kernel
theorem dX12_make_33 : decode cX12_make 33 = .ok (.iconst 1, 1) := by decide +kernel
theorem dX12_make_34 : decode cX12_make 34 = .ok (.if_icmp .ne 7, 3) := by decide +kernel
theorem dX12_make_37 : decode cX12_make 37 = .ok (.iconst 1, 1) := by decide +kernel
theorem dX12_make_38 : decode cX12_make 38 = .ok (.goto 4, 3) := by decide +kernel
theorem dX12_make_41 : decode cX12_make 41 = .ok (.iconst 0, 1) := by decide +kernel
theorem dX12_make_42 : decode cX12_make 42 = .ok (.istore 6, 2) := by decide +kernel
theorem dX12_make_44 : decode cX12_make 44 = .ok (.aload_n 0, 1) := by decide +kernel
theorem dX12_make_45 : decode cX12_make 45 = .ok (.iload 6, 2) := by decide +kernel
theorem dX12_make_47 : decode cX12_make 47 = .ok (.ifCond .ne 11, 3) := by decide +kernel
theorem dX12_make_50 : decode cX12_make 50 = .ok (.aload_n 0, 1) := by decide +kernel
theorem dX12_make_51 : decode cX12_make 51 = .ok (.iload_n 1, 1) := by decide +kernel
theorem dX12_make_52 : decode cX12_make 52 = .ok (.invokevirtual 139, 3) := by decide +kernel
theorem dX12_make_55 : decode cX12_make 55 = .ok (.ifCond .eq 7, 3) := by decide +kernel
theorem dX12_make_58 : decode cX12_make 58 = .ok (.iconst 0, 1) := by decide +kernel
theorem dX12_make_59 : decode cX12_make 59 = .ok (.goto 9, 3) := by decide +kernel
theorem dX12_make_62 : decode cX12_make 62 = .ok (.aload_n 0, 1) := by decide +kernel
theorem dX12_make_63 : decode cX12_make 63 = .ok (.getfield 130, 3) := by decide +kernel
theorem dX12_make_66 : decode cX12_make 66 = .ok (.iconst 1, 1) := by decide +kernel
theorem dX12_make_67 : decode cX12_make 67 = .ok (.iadd, 1) := by decide +kernel
theorem dX12_make_68 : decode cX12_make 68 = .ok (.putfield 130, 3) := by decide +kernel
theorem dX12_make_71 : decode cX12_make 71 = .ok (.iload 6, 2) := by decide +kernel
theorem dX12_make_73 : decode cX12_make 73 = .ok (.ifCond .eq 41, 3) := by decide +kernel
theorem dX12_make_76 : decode cX12_make 76 = .ok (.aload_n 0, 1) := by decide +kernel
theorem dX12_make_77 : decode cX12_make 77 = .ok (.getfield 70, 3) := by decide +kernel
theorem dX12_make_80 : decode cX12_make 80 = .ok (.iload_n 3, 1) := by decide +kernel
theorem dX12_make_81 : decode cX12_make 81 = .ok (.iaload, 1) := by decide +kernel
theorem dX12_make_82 : decode cX12_make 82 = .ok (.ifCond .ne 32, 3) := by decide +kernel
theorem dX12_make_85 : decode cX12_make 85 = .ok (.iload_n 2, 1) := by decide +kernel
theorem dX12_make_86 : decode cX12_make 86 = .ok (.bipush 8, 2) := by decide +kernel
theorem dX12_make_88 : decode cX12_make 88 = .ok (.irem, 1) := by decide +kernel
theorem dX12_make_89 : decode cX12_make 89 = .ok (.iload_n 3, 1) := by decide +kernel
theorem dX12_make_90 : decode cX12_make 90 = .ok (.bipush 8, 2) := by decide +kernel
theorem dX12_make_92 : decode cX12_make 92 = .ok (.irem, 1) := by decide +kernel
theorem dX12_make_93 : decode cX12_make 93 = .ok (.if_icmp .eq 21, 3) := by decide +kernel
theorem dX12_make_96 : decode cX12_make 96 = .ok (.aload_n 0, 1) := by decide +kernel
theorem dX12_make_97 : decode cX12_make 97 = .ok (.getfield 70, 3) := by decide +kernel
theorem dX12_make_100 : decode cX12_make 100 = .ok (.iload_n 2, 1) := by decide +kernel
theorem dX12_make_101 : decode cX12_make 101 = .ok (.bipush 8, 2) := by decide +kernel
theorem dX12_make_103 : decode cX12_make 103 = .ok (.idiv, 1) := by decide +kernel
theorem dX12_make_104 : decode cX12_make 104 = .ok (.bipush 8, 2) := by decide +kernel
theorem dX12_make_106 : decode cX12_make 106 = .ok (.imul, 1) := by decide +kernel
theorem dX12_make_107 : decode cX12_make 107 = .ok (.iload_n 3, 1) := by decide +kernel
theorem dX12_make_108 : decode cX12_make 108 = .ok (.bipush 8, 2) := by decide +kernel
theorem dX12_make_110 : decode cX12_make 110 = .ok (.irem, 1) := by decide +kernel
theorem dX12_make_111 : decode cX12_make 111 = .ok (.iadd, 1) := by decide +kernel
theorem dX12_make_112 : decode cX12_make 112 = .ok (.iconst 0, 1) := by decide +kernel
theorem dX12_make_113 : decode cX12_make 113 = .ok (.iastore, 1) := by decide +kernel
theorem dX12_make_114 : decode cX12_make 114 = .ok (.iload 5, 2) := by decide +kernel
theorem dX12_make_116 : decode cX12_make 116 = .ok (.invokestatic 136, 3) := by decide +kernel
theorem dX12_make_119 : decode cX12_make 119 = .ok (.bipush 6, 2) := by decide +kernel
theorem dX12_make_121 : decode cX12_make 121 = .ok (.if_icmp .ne 73, 3) := by decide +kernel
theorem dX12_make_124 : decode cX12_make 124 = .ok (.iload_n 2, 1) := by decide +kernel
theorem dX12_make_125 : decode cX12_make 125 = .ok (.bipush 8, 2) := by decide +kernel
theorem dX12_make_127 : decode cX12_make 127 = .ok (.irem, 1) := by decide +kernel
theorem dX12_make_128 : decode cX12_make 128 = .ok (.iconst 4, 1) := by decide +kernel
theorem dX12_make_129 : decode cX12_make 129 = .ok (.if_icmp .ne 65, 3) := by decide +kernel
theorem dX12_make_132 : decode cX12_make 132 = .ok (.iload_n 3, 1) := by decide +kernel
theorem dX12_make_133 : decode cX12_make 133 = .ok (.bipush 8, 2) := by decide +kernel
theorem dX12_make_135 : decode cX12_make 135 = .ok (.irem, 1) := by decide +kernel
theorem dX12_make_136 : decode cX12_make 136 = .ok (.bipush 6, 2) := by decide +kernel
theorem dX12_make_138 : decode cX12_make 138 = .ok (.if_icmp .eq 11, 3) := by decide +kernel
theorem dX12_make_141 : decode cX12_make 141 = .ok (.iload_n 3, 1) := by decide +kernel
theorem dX12_make_142 : decode cX12_make 142 = .ok (.bipush 8, 2) := by decide +kernel
theorem dX12_make_144 : decode cX12_make 144 = .ok (.irem, 1) := by decide +kernel
theorem dX12_make_145 : decode cX12_make 145 = .ok (.iconst 2, 1) := by decide +kernel
theorem dX12_make_146 : decode cX12_make 146 = .ok (.if_icmp .ne 48, 3) := by decide +kernel
theorem dX12_make_149 : decode cX12_make 149 = .ok (.iload_n 3, 1) := by decide +kernel
theorem dX12_make_150 : decode cX12_make 150 = .ok (.bipush 8, 2) := by decide +kernel
theorem dX12_make_152 : decode cX12_make 152 = .ok (.irem, 1) := by decide +kernel
theorem dX12_make_153 : decode cX12_make 153 = .ok (.bipush 6, 2) := by decide +kernel
theorem dX12_make_155 : decode cX12_make 155 = .ok (.if_icmp .ne 9, 3) := by decide +kernel
theorem dX12_make_158 : decode cX12_make 158 = .ok (.iload_n 2, 1) := by decide +kernel
theorem dX12_make_159 : decode cX12_make 159 = .ok (.iconst 3, 1) := by decide +kernel
theorem dX12_make_160 : decode cX12_make 160 = .ok (.iadd, 1) := by decide +kernel
theorem dX12_make_161 : decode cX12_make 161 = .ok (.goto 6, 3) := by decide +kernel
theorem dX12_make_164 : decode cX12_make 164 = .ok (.iload_n 2, 1) := by decide +kernel
theorem dX12_make_165 : decode cX12_make 165 = .ok (.iconst 4, 1) := by decide +kernel
theorem dX12_make_166 : decode cX12_make 166 = .ok (.isub, 1) := by decide +kernel
theorem dX12_make_167 : decode cX12_make 167 = .ok (.istore 7, 2) := by decide +kernel
theorem dX12_make_169 : decode cX12_make 169 = .ok (.aload_n 0, 1) := by decide +kernel
theorem dX12_make_170 : decode cX12_make 170 = .ok (.getfield 70, 3) := by decide +kernel
theorem dX12_make_173 : decode cX12_make 173 = .ok (.iload_n 2, 1) := by decide +kernel
theorem dX12_make_174 : decode cX12_make 174 = .ok (.iload_n 3, 1) := by decide +kernel
theorem dX12_make_175 : decode cX12_make 175 = .ok (.iadd, 1) := by decide +kernel
theorem dX12_make_176 : decode cX12_make 176 = .ok (.iconst 2, 1) := by decide +kernel
theorem dX12_make_177 : decode cX12_make 177 = .ok (.idiv, 1) := by decide +kernel
theorem dX12_make_178 : decode cX12_make 178 = .ok (.aload_n 0, 1) := by decide +kernel
theorem dX12_make_179 : decode cX12_make 179 = .ok (.getfield 70, 3) := by decide +kernel
theorem dX12_make_182 : decode cX12_make 182 = .ok (.iload 7, 2) := by decide +kernel
theorem dX12_make_184 : decode cX12_make 184 = .ok (.iaload, 1) := by decide +kernel
theorem dX12_make_185 : decode cX12_make 185 = .ok (.iastore, 1) := by decide +kernel
theorem dX12_make_186 : decode cX12_make 186 = .ok (.aload_n 0, 1) := by decide +kernel
theorem dX12_make_187 : decode cX12_make 187 = .ok (.getfield 70, 3) := by decide +kernel
theorem dX12_make_190 : decode cX12_make 190 = .ok (.iload 7, 2) := by decide +kernel
theorem dX12_make_192 : decode cX12_make 192 = .ok (.iconst 0, 1) := by decide +kernel
theorem dX12_make_193 : decode cX12_make 193 = .ok (.iastore, 1) := by decide +kernel
theorem dX12_make_194 : decode cX12_make 194 = .ok (.aload_n 0, 1) := by decide +kernel
theorem dX12_make_195 : decode cX12_make 195 = .ok (.getfield 70, 3) := by decide +kernel
theorem dX12_make_198 : decode cX12_make 198 = .ok (.iload_n 2, 1) := by decide +kernel
theorem dX12_make_199 : decode cX12_make 199 = .ok (.iconst 0, 1) := by decide +kernel
theorem dX12_make_200 : decode cX12_make 200 = .ok (.iastore, 1) := by decide +kernel
theorem dX12_make_201 : decode cX12_make 201 = .ok (.aload_n 0, 1) := by decide +kernel
theorem dX12_make_202 : decode cX12_make 202 = .ok (.getfield 70, 3) := by decide +kernel
theorem dX12_make_205 : decode cX12_make 205 = .ok (.iload_n 3, 1) := by decide +kernel
theorem dX12_make_206 : decode cX12_make 206 = .ok (.iload 4, 2) := by decide +kernel
theorem dX12_make_208 : decode cX12_make 208 = .ok (.ifCond .le 16, 3) := by decide +kernel
theorem dX12_make_211 : decode cX12_make 211 = .ok (.iload 4, 2) := by decide +kernel
theorem dX12_make_213 : decode cX12_make 213 = .ok (.bipush 8, 2) := by decide +kernel
theorem dX12_make_215 : decode cX12_make 215 = .ok (.aload_n 0, 1) := by decide +kernel
theorem dX12_make_216 : decode cX12_make 216 = .ok (.getfield 121, 3) := by decide +kernel
theorem dX12_make_219 : decode cX12_make 219 = .ok (.imul, 1) := by decide +kernel
theorem dX12_make_220 : decode cX12_make 220 = .ok (.iadd, 1) := by decide +kernel
theorem dX12_make_221 : decode cX12_make 221 = .ok (.goto 5, 3) := by decide +kernel
theorem dX12_make_224 : decode cX12_make 224 = .ok (.iload 5, 2) := by decide +kernel
theorem dX12_make_226 : decode cX12_make 226 = .ok (.iastore, 1) := by decide +kernel
theorem dX12_make_227 : decode cX12_make 227 = .ok (.aload_n 0, 1) := by decide +kernel
theorem dX12_make_228 : decode cX12_make 228 = .ok (.iload_n 2, 1) := by decide +kernel
theorem dX12_make_229 : decode cX12_make 229 = .ok (.invokevirtual 143, 3) := by decide +kernel
theorem dX12_make_232 : decode cX12_make 232 = .ok (.aload_n 0, 1) := by decide +kernel
theorem dX12_make_233 : decode cX12_make 233 = .ok (.iload_n 3, 1) := by decide +kernel
theorem dX12_make_234 : decode cX12_make 234 = .ok (.invokevirtual 143, 3) := by decide +kernel
theorem dX12_make_237 : decode cX12_make 237 = .ok (.aload_n 0, 1) := by decide +kernel
theorem dX12_make_238 : decode cX12_make 238 = .ok (.iconst (-1), 1) := by decide +kernel
theorem dX12_make_239 : decode cX12_make 239 = .ok (.putfield 127, 3) := by decide +kernel
theorem dX12_make_242 : decode cX12_make 242 = .ok (.iload 6, 2) := by decide +kernel
theorem dX12_make_244 : decode cX12_make 244 = .ok (.ifCond .eq 75, 3) := by decide +kernel
theorem dX12_make_247 : decode cX12_make 247 = .ok (.iload_n 3, 1) := by decide +kernel
theorem dX12_make_248 : decode cX12_make 248 = .ok (.iload_n 2, 1) := by decide +kernel
theorem dX12_make_249 : decode cX12_make 249 = .ok (.bipush 16, 2) := by decide +kernel
theorem dX12_make_251 : decode cX12_make 251 = .ok (.iadd, 1) := by decide +kernel
theorem dX12_make_252 : decode cX12_make 252 = .ok (.if_icmp .eq 11, 3) := by decide +kernel
theorem dX12_make_255 : decode cX12_make 255 = .ok (.iload_n 3, 1) := by decide +kernel
theorem dX12_make_256 : decode cX12_make 256 = .ok (.iload_n 2, 1) := by decide +kernel
theorem dX12_make_257 : decode cX12_make 257 = .ok (.bipush 16, 2) := by decide +kernel
theorem dX12_make_259 : decode cX12_make 259 = .ok (.isub, 1) := by decide +kernel
theorem dX12_make_260 : decode cX12_make 260 = .ok (.if_icmp .ne 59, 3) := by decide +kernel
theorem dX12_make_263 : decode cX12_make 263 = .ok (.iconst 1, 1) := by decide +kernel
theorem dX12_make_264 : decode cX12_make 264 = .ok (.bipush 8, 2) := by decide +kernel
theorem dX12_make_266 : decode cX12_make 266 = .ok (.iconst 1, 1) := by decide +kernel
theorem dX12_make_267 : decode cX12_make 267 = .ok (.aload_n 0, 1) := by decide +kernel
theorem dX12_make_268 : decode cX12_make 268 = .ok (.getfield 121, 3) := by decide +kernel
theorem dX12_make_271 : decode cX12_make 271 = .ok (.isub, 1) := by decide +kernel
theorem dX12_make_272 : decode cX12_make 272 = .ok (.imul, 1) := by decide +kernel
theorem dX12_make_273 : decode cX12_make 273 = .ok (.iadd, 1) := by decide +kernel
theorem dX12_make_274 : decode cX12_make 274 = .ok (.istore 7, 2) := by decide +kernel
theorem dX12_make_276 : decode cX12_make 276 = .ok (.aload_n 0, 1) := by decide +kernel
theorem dX12_make_277 : decode cX12_make 277 = .ok (.aload_n 0, 1) := by decide +kernel
theorem dX12_make_278 : decode cX12_make 278 = .ok (.iload_n 3, 1) := by decide +kernel
theorem dX12_make_279 : decode cX12_make 279 = .ok (.iconst (-1), 1) := by decide +kernel
theorem dX12_make_280 : decode cX12_make 280 = .ok (.iconst 0, 1) := by decide +kernel
theorem dX12_make_281 : decode cX12_make 281 = .ok (.invokestatic 103, 3) := by decide +kernel
theorem dX12_make_284 : decode cX12_make 284 = .ok (.iload 7, 2) := by decide +kernel
theorem dX12_make_286 : decode cX12_make 286 = .ok (.invokevirtual 107, 3) := by decide +kernel
theorem dX12_make_289 : decode cX12_make 289 = .ok (.ifCond .ne 18, 3) := by decide +kernel
theorem dX12_make_292 : decode cX12_make 292 = .ok (.aload_n 0, 1) := by decide +kernel
theorem dX12_make_293 : decode cX12_make 293 = .ok (.iload_n 3, 1) := by decide +kernel
theorem dX12_make_294 : decode cX12_make 294 = .ok (.iconst 1, 1) := by decide +kernel
theorem dX12_make_295 : decode cX12_make 295 = .ok (.iconst 0, 1) := by decide +kernel
theorem dX12_make_296 : decode cX12_make 296 = .ok (.invokestatic 103, 3) := by decide +kernel
theorem dX12_make_299 : decode cX12_make 299 = .ok (.iload 7, 2) := by decide +kernel
theorem dX12_make_301 : decode cX12_make 301 = .ok (.invokevirtual 107, 3) := by decide +kernel
theorem dX12_make_304 : decode cX12_make 304 = .ok (.ifCond .eq 11, 3) := by decide +kernel
theorem dX12_make_307 : decode cX12_make 307 = .ok (.iload_n 2, 1) := by decide +kernel
theorem dX12_make_308 : decode cX12_make 308 = .ok (.iload_n 3, 1) := by decide +kernel
theorem dX12_make_309 : decode cX12_make 309 = .ok (.iadd, 1) := by decide +kernel
theorem dX12_make_310 : decode cX12_make 310 = .ok (.iconst 2, 1) := by decide +kernel
theorem dX12_make_311 : decode cX12_make 311 = .ok (.idiv, 1) := by decide +kernel
theorem dX12_make_312 : decode cX12_make 312 = .ok (.goto 4, 3) := by decide +kernel
theorem dX12_make_315 : decode cX12_make 315 = .ok (.iconst (-1), 1) := by decide +kernel
theorem dX12_make_316 : decode cX12_make 316 = .ok (.putfield 127, 3) := by decide +kernel
theorem dX12_make_319 : decode cX12_make 319 = .ok (.aload_n 0, 1) := by decide +kernel
theorem dX12_make_320 : decode cX12_make 320 = .ok (.aload_n 0, 1) := by decide +kernel
theorem dX12_make_321 : decode cX12_make 321 = .ok (.getfield 133, 3) := by decide +kernel
theorem dX12_make_324 : decode cX12_make 324 = .ok (.aload_n 0, 1) := by decide +kernel
theorem dX12_make_325 : decode cX12_make 325 = .ok (.getfield 121, 3) := by decide +kernel
theorem dX12_make_328 : decode cX12_make 328 = .ok (.iadd, 1) := by decide +kernel
theorem dX12_make_329 : decode cX12_make 329 = .ok (.putfield 133, 3) := by decide +kernel
theorem dX12_make_332 : decode cX12_make 332 = .ok (.aload_n 0, 1) := by decide +kernel
theorem dX12_make_333 : decode cX12_make 333 = .ok (.iconst 1, 1) := by decide +kernel
theorem dX12_make_334 : decode cX12_make 334 = .ok (.aload_n 0, 1) := by decide +kernel
theorem dX12_make_335 : decode cX12_make 335 = .ok (.getfield 121, 3) := by decide +kernel
theorem dX12_make_338 : decode cX12_make 338 = .ok (.isub, 1) := by decide +kernel
theorem dX12_make_339 : decode cX12_make 339 = .ok (.putfield 121, 3) := by decide +kernel
theorem dX12_make_342 : decode cX12_make 342 = .ok (.return_, 1) := by decide +kernel
theorem dX12_isSafe_0 : decode cX12_isSafe 0 = .ok (.aload_n 0, 1) := by decide +kernel
theorem dX12_isSafe_1 : decode cX12_isSafe 1 = .ok (.invokevirtual 146, 3) := by decide +kernel
theorem dX12_isSafe_4 : decode cX12_isSafe 4 = .ok (.aload_n 0, 1) := by decide +kernel
theorem dX12_isSafe_5 : decode cX12_isSafe 5 = .ok (.iload_n 1, 1) := by decide +kernel
theorem dX12_isSafe_6 : decode cX12_isSafe 6 = .ok (.invokevirtual 149, 3) := by decide +kernel
theorem dX12_isSafe_9 : decode cX12_isSafe 9 = .ok (.aload_n 0, 1) := by decide +kernel
theorem dX12_isSafe_10 : decode cX12_isSafe 10 = .ok (.iconst 1, 1) := by decide +kernel
theorem dX12_isSafe_11 : decode cX12_isSafe 11 = .ok (.aload_n 0, 1) := by decide +kernel
theorem dX12_isSafe_12 : decode cX12_isSafe 12 = .ok (.getfield 121, 3) := by decide +kernel
theorem dX12_isSafe_15 : decode cX12_isSafe 15 = .ok (.isub, 1) := by decide +kernel
theorem dX12_isSafe_16 : decode cX12_isSafe 16 = .ok (.invokevirtual 152, 3) := by decide +kernel
theorem dX12_isSafe_19 : decode cX12_isSafe 19 = .ok (.ifCond .ne 7, 3) := by decide +kernel
theorem dX12_isSafe_22 : decode cX12_isSafe 22 = .ok (.iconst 1, 1) := by decide +kernel
theorem dX12_isSafe_23 : decode cX12_isSafe 23 = .ok (.goto 4, 3) := by decide +kernel
theorem dX12_isSafe_26 : decode cX12_isSafe 26 = .ok (.iconst 0, 1) := by decide +kernel
theorem dX12_isSafe_27 : decode cX12_isSafe 27 = .ok (.istore_n 2, 1) := by decide +kernel
theorem dX12_isSafe_28 : decode cX12_isSafe 28 = .ok (.aload_n 0, 1) := by decide +kernel
theorem dX12_isSafe_29 : decode cX12_isSafe 29 = .ok (.invokevirtual 155, 3) := by decide +kernel
theorem dX12_isSafe_32 : decode cX12_isSafe 32 = .ok (.iload_n 2, 1) := by decide +kernel
theorem dX12_isSafe_33 : decode cX12_isSafe 33 = .ok (.ireturn, 1) := by decide +kernel
theorem dX12_isClear_0 : decode cX12_isClear 0 = .ok (.iconst 1, 1) := by decide +kernel
theorem dX12_isClear_1 : decode cX12_isClear 1 = .ok (.istore_n 3, 1) := by decide +kernel
theorem dX12_isClear_2 : decode cX12_isClear 2 = .ok (.iload_n 1, 1) := by decide +kernel
theorem dX12_isClear_3 : decode cX12_isClear 3 = .ok (.istore 4, 2) := by decide +kernel
theorem dX12_isClear_5 : decode cX12_isClear 5 = .ok (.iload 4, 2) := by decide +kernel
theorem dX12_isClear_7 : decode cX12_isClear 7 = .ok (.iload_n 2, 1) := by decide +kernel
theorem dX12_isClear_8 : decode cX12_isClear 8 = .ok (.if_icmp .gt 29, 3) := by decide +kernel
theorem dX12_isClear_11 : decode cX12_isClear 11 = .ok (.iload_n 3, 1) := by decide +kernel
theorem dX12_isClear_12 : decode cX12_isClear 12 = .ok (.ifCond .eq 17, 3) := by decide +kernel
theorem dX12_isClear_15 : decode cX12_isClear 15 = .ok (.aload_n 0, 1) := by decide +kernel
theorem dX12_isClear_16 : decode cX12_isClear 16 = .ok (.getfield 70, 3) := by decide +kernel
theorem dX12_isClear_19 : decode cX12_isClear 19 = .ok (.iload 4, 2) := by decide +kernel
theorem dX12_isClear_21 : decode cX12_isClear 21 = .ok (.iaload, 1) := by decide +kernel
theorem dX12_isClear_22 : decode cX12_isClear 22 = .ok (.ifCond .ne 7, 3) := by decide +kernel
theorem dX12_isClear_25 : decode cX12_isClear 25 = .ok (.iconst 1, 1) := by decide +kernel
theorem dX12_isClear_26 : decode cX12_isClear 26 = .ok (.goto 4, 3) := by decide +kernel
theorem dX12_isClear_29 : decode cX12_isClear 29 = .ok (.iconst 0, 1) := by decide +kernel
theorem dX12_isClear_30 : decode cX12_isClear 30 = .ok (.istore_n 3, 1) := by decide +kernel
theorem dX12_isClear_31 : decode cX12_isClear 31 = .ok (.iinc 4 1, 3) := by decide +kernel
theorem dX12_isClear_34 : decode cX12_isClear 34 = .ok (.goto (-29), 3) := by decide +kernel
theorem dX12_isClear_37 : decode cX12_isClear 37 = .ok (.iload_n 3, 1) := by decide +kernel
theorem dX12_isClear_38 : decode cX12_isClear 38 = .ok (.ireturn, 1) := by decide +kernel
theorem dX12_mayCastle_0 : decode cX12_mayCastle 0 = .ok (.iconst 4, 1) := by decide +kernel
theorem dX12_mayCastle_1 : decode cX12_mayCastle 1 = .ok (.bipush 56, 2) := by decide +kernel
theorem dX12_mayCastle_3 : decode cX12_mayCastle 3 = .ok (.aload_n 0, 1) := by decide +kernel
theorem dX12_mayCastle_4 : decode cX12_mayCastle 4 = .ok (.getfield 121, 3) := by decide +kernel
theorem dX12_mayCastle_7 : decode cX12_mayCastle 7 = .ok (.imul, 1) := by decide +kernel
theorem dX12_mayCastle_8 : decode cX12_mayCastle 8 = .ok (.iadd, 1) := by decide +kernel
theorem dX12_mayCastle_9 : decode cX12_mayCastle 9 = .ok (.istore_n 2, 1) := by decide +kernel
theorem dX12_mayCastle_10 : decode cX12_mayCastle 10 = .ok (.iload_n 1, 1) := by decide +kernel
theorem dX12_mayCastle_11 : decode cX12_mayCastle 11 = .ok (.iload_n 2, 1) := by decide +kernel
theorem dX12_mayCastle_12 : decode cX12_mayCastle 12 = .ok (.if_icmp .le 7, 3) := by decide +kernel
theorem dX12_mayCastle_15 : decode cX12_mayCastle 15 = .ok (.iconst 1, 1) := by decide +kernel
theorem dX12_mayCastle_16 : decode cX12_mayCastle 16 = .ok (.goto 4, 3) := by decide +kernel
theorem dX12_mayCastle_19 : decode cX12_mayCastle 19 = .ok (.iconst 0, 1) := by decide +kernel
theorem dX12_mayCastle_20 : decode cX12_mayCastle 20 = .ok (.istore_n 3, 1) := by decide +kernel
theorem dX12_mayCastle_21 : decode cX12_mayCastle 21 = .ok (.aload_n 0, 1) := by decide +kernel
theorem dX12_mayCastle_22 : decode cX12_mayCastle 22 = .ok (.getfield 124, 3) := by decide +kernel
theorem dX12_mayCastle_25 : decode cX12_mayCastle 25 = .ok (.iconst 2, 1) := by decide +kernel
theorem dX12_mayCastle_26 : decode cX12_mayCastle 26 = .ok (.aload_n 0, 1) := by decide +kernel
theorem dX12_mayCastle_27 : decode cX12_mayCastle 27 = .ok (.getfield 121, 3) := by decide +kernel
theorem dX12_mayCastle_30 : decode cX12_mayCastle 30 = .ok (.imul, 1) := by decide +kernel
theorem dX12_mayCastle_31 : decode cX12_mayCastle 31 = .ok (.iload_n 3, 1) := by decide +kernel
theorem dX12_mayCastle_32 : decode cX12_mayCastle 32 = .ok (.ifCond .eq 7, 3) := by decide +kernel
theorem dX12_mayCastle_35 : decode cX12_mayCastle 35 = .ok (.iconst 0, 1) := by decide +kernel
theorem dX12_mayCastle_36 : decode cX12_mayCastle 36 = .ok (.goto 4, 3) := by decide +kernel
theorem dX12_mayCastle_39 : decode cX12_mayCastle 39 = .ok (.iconst 1, 1) := by decide +kernel
theorem dX12_mayCastle_40 : decode cX12_mayCastle 40 = .ok (.iadd, 1) := by decide +kernel
theorem dX12_mayCastle_41 : decode cX12_mayCastle 41 = .ok (.ishr, 1) := by decide +kernel
theorem dX12_mayCastle_42 : decode cX12_mayCastle 42 = .ok (.iconst 1, 1) := by decide +kernel
theorem dX12_mayCastle_43 : decode cX12_mayCastle 43 = .ok (.iand, 1) := by decide +kernel
theorem dX12_mayCastle_44 : decode cX12_mayCastle 44 = .ok (.iconst 1, 1) := by decide +kernel
theorem dX12_mayCastle_45 : decode cX12_mayCastle 45 = .ok (.if_icmp .ne 7, 3) := by decide +kernel
theorem dX12_mayCastle_48 : decode cX12_mayCastle 48 = .ok (.iconst 1, 1) := by decide +kernel
theorem dX12_mayCastle_49 : decode cX12_mayCastle 49 = .ok (.goto 4, 3) := by decide +kernel
theorem dX12_mayCastle_52 : decode cX12_mayCastle 52 = .ok (.iconst 0, 1) := by decide +kernel
theorem dX12_mayCastle_53 : decode cX12_mayCastle 53 = .ok (.istore 4, 2) := by decide +kernel
theorem dX12_mayCastle_55 : decode cX12_mayCastle 55 = .ok (.iload_n 3, 1) := by decide +kernel
theorem dX12_mayCastle_56 : decode cX12_mayCastle 56 = .ok (.ifCond .eq 16, 3) := by decide +kernel
theorem dX12_mayCastle_59 : decode cX12_mayCastle 59 = .ok (.aload_n 0, 1) := by decide +kernel
theorem dX12_mayCastle_60 : decode cX12_mayCastle 60 = .ok (.iload_n 2, 1) := by decide +kernel
theorem dX12_mayCastle_61 : decode cX12_mayCastle 61 = .ok (.iconst 1, 1) := by decide +kernel
theorem dX12_mayCastle_62 : decode cX12_mayCastle 62 = .ok (.iadd, 1) := by decide +kernel
theorem dX12_mayCastle_63 : decode cX12_mayCastle 63 = .ok (.iload_n 2, 1) := by decide +kernel
theorem dX12_mayCastle_64 : decode cX12_mayCastle 64 = .ok (.iconst 2, 1) := by decide +kernel
theorem dX12_mayCastle_65 : decode cX12_mayCastle 65 = .ok (.iadd, 1) := by decide +kernel
theorem dX12_mayCastle_66 : decode cX12_mayCastle 66 = .ok (.invokevirtual 158, 3) := by decide +kernel
theorem dX12_mayCastle_69 : decode cX12_mayCastle 69 = .ok (.goto 13, 3) := by decide +kernel
theorem dX12_mayCastle_72 : decode cX12_mayCastle 72 = .ok (.aload_n 0, 1) := by decide +kernel
theorem dX12_mayCastle_73 : decode cX12_mayCastle 73 = .ok (.iload_n 2, 1) := by decide +kernel
theorem dX12_mayCastle_74 : decode cX12_mayCastle 74 = .ok (.iconst 3, 1) := by decide +kernel
theorem dX12_mayCastle_75 : decode cX12_mayCastle 75 = .ok (.isub, 1) := by decide +kernel
theorem dX12_mayCastle_76 : decode cX12_mayCastle 76 = .ok (.iload_n 2, 1) := by decide +kernel
theorem dX12_mayCastle_77 : decode cX12_mayCastle 77 = .ok (.iconst 1, 1) := by decide +kernel
theorem dX12_mayCastle_78 : decode cX12_mayCastle 78 = .ok (.isub, 1) := by decide +kernel
theorem dX12_mayCastle_79 : decode cX12_mayCastle 79 = .ok (.invokevirtual 158, 3) := by decide +kernel
theorem dX12_mayCastle_82 : decode cX12_mayCastle 82 = .ok (.istore 5, 2) := by decide +kernel
theorem dX12_mayCastle_84 : decode cX12_mayCastle 84 = .ok (.iload 4, 2) := by decide +kernel
theorem dX12_mayCastle_86 : decode cX12_mayCastle 86 = .ok (.ifCond .eq 44, 3) := by decide +kernel
theorem dX12_mayCastle_89 : decode cX12_mayCastle 89 = .ok (.iload 5, 2) := by decide +kernel
theorem dX12_mayCastle_91 : decode cX12_mayCastle 91 = .ok (.ifCond .eq 39, 3) := by decide +kernel
theorem dX12_mayCastle_94 : decode cX12_mayCastle 94 = .ok (.aload_n 0, 1) := by decide +kernel
theorem dX12_mayCastle_95 : decode cX12_mayCastle 95 = .ok (.iload_n 2, 1) := by decide +kernel
theorem dX12_mayCastle_96 : decode cX12_mayCastle 96 = .ok (.iconst 1, 1) := by decide +kernel
theorem dX12_mayCastle_97 : decode cX12_mayCastle 97 = .ok (.aload_n 0, 1) := by decide +kernel
theorem dX12_mayCastle_98 : decode cX12_mayCastle 98 = .ok (.getfield 121, 3) := by decide +kernel
theorem dX12_mayCastle_101 : decode cX12_mayCastle 101 = .ok (.isub, 1) := by decide +kernel
theorem dX12_mayCastle_102 : decode cX12_mayCastle 102 = .ok (.invokevirtual 118, 3) := by decide +kernel
theorem dX12_mayCastle_105 : decode cX12_mayCastle 105 = .ok (.ifCond .ne 25, 3) := by decide +kernel
theorem dX12_mayCastle_108 : decode cX12_mayCastle 108 = .ok (.aload_n 0, 1) := by decide +kernel
theorem dX12_mayCastle_109 : decode cX12_mayCastle 109 = .ok (.iload_n 2, 1) := by decide +kernel
theorem dX12_mayCastle_110 : decode cX12_mayCastle 110 = .ok (.iload_n 1, 1) := by decide +kernel
theorem dX12_mayCastle_111 : decode cX12_mayCastle 111 = .ok (.iadd, 1) := by decide +kernel
theorem dX12_mayCastle_112 : decode cX12_mayCastle 112 = .ok (.iconst 2, 1) := by decide +kernel
theorem dX12_mayCastle_113 : decode cX12_mayCastle 113 = .ok (.idiv, 1) := by decide +kernel
theorem dX12_mayCastle_114 : decode cX12_mayCastle 114 = .ok (.iconst 1, 1) := by decide +kernel
theorem dX12_mayCastle_115 : decode cX12_mayCastle 115 = .ok (.aload_n 0, 1) := by decide +kernel
theorem dX12_mayCastle_116 : decode cX12_mayCastle 116 = .ok (.getfield 121, 3) := by decide +kernel
theorem dX12_mayCastle_119 : decode cX12_mayCastle 119 = .ok (.isub, 1) := by decide +kernel
theorem dX12_mayCastle_120 : decode cX12_mayCastle 120 = .ok (.invokevirtual 118, 3) := by decide +kernel
theorem dX12_mayCastle_123 : decode cX12_mayCastle 123 = .ok (.ifCond .ne 7, 3) := by decide +kernel
theorem dX12_mayCastle_126 : decode cX12_mayCastle 126 = .ok (.iconst 1, 1) := by decide +kernel
theorem dX12_mayCastle_127 : decode cX12_mayCastle 127 = .ok (.goto 4, 3) := by decide +kernel
theorem dX12_mayCastle_130 : decode cX12_mayCastle 130 = .ok (.iconst 0, 1) := by decide +kernel
theorem dX12_mayCastle_131 : decode cX12_mayCastle 131 = .ok (.ireturn, 1) := by decide +kernel
theorem dX12_pawnGoes_0 : decode cX12_pawnGoes 0 = .ok (.aload_n 0, 1) := by decide +kernel
theorem dX12_pawnGoes_1 : decode cX12_pawnGoes 1 = .ok (.getfield 121, 3) := by decide +kernel
theorem dX12_pawnGoes_4 : decode cX12_pawnGoes 4 = .ok (.ifCond .ne 8, 3) := by decide +kernel
theorem dX12_pawnGoes_7 : decode cX12_pawnGoes 7 = .ok (.bipush 8, 2) := by decide +kernel
theorem dX12_pawnGoes_9 : decode cX12_pawnGoes 9 = .ok (.goto 5, 3) := by decide +kernel
theorem dX12_pawnGoes_12 : decode cX12_pawnGoes 12 = .ok (.bipush (-8), 2) := by decide +kernel
theorem dX12_pawnGoes_14 : decode cX12_pawnGoes 14 = .ok (.istore_n 3, 1) := by decide +kernel
theorem dX12_pawnGoes_15 : decode cX12_pawnGoes 15 = .ok (.iload_n 2, 1) := by decide +kernel
theorem dX12_pawnGoes_16 : decode cX12_pawnGoes 16 = .ok (.iload_n 1, 1) := by decide +kernel
theorem dX12_pawnGoes_17 : decode cX12_pawnGoes 17 = .ok (.iload_n 3, 1) := by decide +kernel
theorem dX12_pawnGoes_18 : decode cX12_pawnGoes 18 = .ok (.iadd, 1) := by decide +kernel
theorem dX12_pawnGoes_19 : decode cX12_pawnGoes 19 = .ok (.if_icmp .ne 18, 3) := by decide +kernel
theorem dX12_pawnGoes_22 : decode cX12_pawnGoes 22 = .ok (.aload_n 0, 1) := by decide +kernel
theorem dX12_pawnGoes_23 : decode cX12_pawnGoes 23 = .ok (.getfield 70, 3) := by decide +kernel
theorem dX12_pawnGoes_26 : decode cX12_pawnGoes 26 = .ok (.iload_n 2, 1) := by decide +kernel
theorem dX12_pawnGoes_27 : decode cX12_pawnGoes 27 = .ok (.iaload, 1) := by decide +kernel
theorem dX12_pawnGoes_28 : decode cX12_pawnGoes 28 = .ok (.ifCond .ne 7, 3) := by decide +kernel
theorem dX12_pawnGoes_31 : decode cX12_pawnGoes 31 = .ok (.iconst 1, 1) := by decide +kernel
theorem dX12_pawnGoes_32 : decode cX12_pawnGoes 32 = .ok (.goto 4, 3) := by decide +kernel
theorem dX12_pawnGoes_35 : decode cX12_pawnGoes 35 = .ok (.iconst 0, 1) := by decide +kernel
theorem dX12_pawnGoes_36 : decode cX12_pawnGoes 36 = .ok (.ireturn, 1) := by decide +kernel
theorem dX12_pawnGoes_37 : decode cX12_pawnGoes 37 = .ok (.iload_n 2, 1) := by decide +kernel
theorem dX12_pawnGoes_38 : decode cX12_pawnGoes 38 = .ok (.iload_n 1, 1) := by decide +kernel
theorem dX12_pawnGoes_39 : decode cX12_pawnGoes 39 = .ok (.iconst 2, 1) := by decide +kernel
theorem dX12_pawnGoes_40 : decode cX12_pawnGoes 40 = .ok (.iload_n 3, 1) := by decide +kernel
theorem dX12_pawnGoes_41 : decode cX12_pawnGoes 41 = .ok (.imul, 1) := by decide +kernel
theorem dX12_pawnGoes_42 : decode cX12_pawnGoes 42 = .ok (.iadd, 1) := by decide +kernel
theorem dX12_pawnGoes_43 : decode cX12_pawnGoes 43 = .ok (.if_icmp .ne 49, 3) := by decide +kernel
theorem dX12_pawnGoes_46 : decode cX12_pawnGoes 46 = .ok (.iload_n 1, 1) := by decide +kernel
theorem dX12_pawnGoes_47 : decode cX12_pawnGoes 47 = .ok (.bipush 8, 2) := by decide +kernel
theorem dX12_pawnGoes_49 : decode cX12_pawnGoes 49 = .ok (.idiv, 1) := by decide +kernel
theorem dX12_pawnGoes_50 : decode cX12_pawnGoes 50 = .ok (.aload_n 0, 1) := by decide +kernel
theorem dX12_pawnGoes_51 : decode cX12_pawnGoes 51 = .ok (.getfield 121, 3) := by decide +kernel
theorem dX12_pawnGoes_54 : decode cX12_pawnGoes 54 = .ok (.ifCond .ne 7, 3) := by decide +kernel
theorem dX12_pawnGoes_57 : decode cX12_pawnGoes 57 = .ok (.iconst 1, 1) := by decide +kernel
theorem dX12_pawnGoes_58 : decode cX12_pawnGoes 58 = .ok (.goto 5, 3) := by decide +kernel
theorem dX12_pawnGoes_61 : decode cX12_pawnGoes 61 = .ok (.bipush 6, 2) := by decide +kernel
theorem dX12_pawnGoes_63 : decode cX12_pawnGoes 63 = .ok (.if_icmp .ne 27, 3) := by decide +kernel
theorem dX12_pawnGoes_66 : decode cX12_pawnGoes 66 = .ok (.aload_n 0, 1) := by decide +kernel
theorem dX12_pawnGoes_67 : decode cX12_pawnGoes 67 = .ok (.getfield 70, 3) := by decide +kernel
theorem dX12_pawnGoes_70 : decode cX12_pawnGoes 70 = .ok (.iload_n 1, 1) := by decide +kernel
theorem dX12_pawnGoes_71 : decode cX12_pawnGoes 71 = .ok (.iload_n 3, 1) := by decide +kernel
theorem dX12_pawnGoes_72 : decode cX12_pawnGoes 72 = .ok (.iadd, 1) := by decide +kernel
theorem dX12_pawnGoes_73 : decode cX12_pawnGoes 73 = .ok (.iaload, 1) := by decide +kernel
theorem dX12_pawnGoes_74 : decode cX12_pawnGoes 74 = .ok (.ifCond .ne 16, 3) := by decide +kernel
theorem dX12_pawnGoes_77 : decode cX12_pawnGoes 77 = .ok (.aload_n 0, 1) := by decide +kernel
theorem dX12_pawnGoes_78 : decode cX12_pawnGoes 78 = .ok (.getfield 70, 3) := by decide +kernel
theorem dX12_pawnGoes_81 : decode cX12_pawnGoes 81 = .ok (.iload_n 2, 1) := by decide +kernel
theorem dX12_pawnGoes_82 : decode cX12_pawnGoes 82 = .ok (.iaload, 1) := by decide +kernel
theorem dX12_pawnGoes_83 : decode cX12_pawnGoes 83 = .ok (.ifCond .ne 7, 3) := by decide +kernel
theorem dX12_pawnGoes_86 : decode cX12_pawnGoes 86 = .ok (.iconst 1, 1) := by decide +kernel
theorem dX12_pawnGoes_87 : decode cX12_pawnGoes 87 = .ok (.goto 4, 3) := by decide +kernel
theorem dX12_pawnGoes_90 : decode cX12_pawnGoes 90 = .ok (.iconst 0, 1) := by decide +kernel
theorem dX12_pawnGoes_91 : decode cX12_pawnGoes 91 = .ok (.ireturn, 1) := by decide +kernel
theorem dX12_pawnGoes_92 : decode cX12_pawnGoes 92 = .ok (.iload_n 2, 1) := by decide +kernel
theorem dX12_pawnGoes_93 : decode cX12_pawnGoes 93 = .ok (.bipush 8, 2) := by decide +kernel
theorem dX12_pawnGoes_95 : decode cX12_pawnGoes 95 = .ok (.irem, 1) := by decide +kernel
theorem dX12_pawnGoes_96 : decode cX12_pawnGoes 96 = .ok (.iload_n 1, 1) := by decide +kernel
theorem dX12_pawnGoes_97 : decode cX12_pawnGoes 97 = .ok (.bipush 8, 2) := by decide +kernel
theorem dX12_pawnGoes_99 : decode cX12_pawnGoes 99 = .ok (.irem, 1) := by decide +kernel
theorem dX12_pawnGoes_100 : decode cX12_pawnGoes 100 = .ok (.isub, 1) := by decide +kernel
theorem dX12_pawnGoes_101 : decode cX12_pawnGoes 101 = .ok (.istore 4, 2) := by decide +kernel
theorem dX12_pawnGoes_103 : decode cX12_pawnGoes 103 = .ok (.iload_n 2, 1) := by decide +kernel
theorem dX12_pawnGoes_104 : decode cX12_pawnGoes 104 = .ok (.bipush 8, 2) := by decide +kernel
theorem dX12_pawnGoes_106 : decode cX12_pawnGoes 106 = .ok (.idiv, 1) := by decide +kernel
theorem dX12_pawnGoes_107 : decode cX12_pawnGoes 107 = .ok (.iload_n 1, 1) := by decide +kernel
theorem dX12_pawnGoes_108 : decode cX12_pawnGoes 108 = .ok (.bipush 8, 2) := by decide +kernel
theorem dX12_pawnGoes_110 : decode cX12_pawnGoes 110 = .ok (.idiv, 1) := by decide +kernel
theorem dX12_pawnGoes_111 : decode cX12_pawnGoes 111 = .ok (.iload_n 3, 1) := by decide +kernel
theorem dX12_pawnGoes_112 : decode cX12_pawnGoes 112 = .ok (.bipush 8, 2) := by decide +kernel
theorem dX12_pawnGoes_114 : decode cX12_pawnGoes 114 = .ok (.idiv, 1) := by decide +kernel
theorem dX12_pawnGoes_115 : decode cX12_pawnGoes 115 = .ok (.iadd, 1) := by decide +kernel
theorem dX12_pawnGoes_116 : decode cX12_pawnGoes 116 = .ok (.if_icmp .ne 45, 3) := by decide +kernel
theorem dX12_pawnGoes_119 : decode cX12_pawnGoes 119 = .ok (.iload 4, 2) := by decide +kernel
theorem dX12_pawnGoes_121 : decode cX12_pawnGoes 121 = .ok (.iconst 1, 1) := by decide +kernel
theorem dX12_pawnGoes_122 : decode cX12_pawnGoes 122 = .ok (.if_icmp .eq 9, 3) := by decide +kernel
theorem dX12_pawnGoes_125 : decode cX12_pawnGoes 125 = .ok (.iload 4, 2) := by decide +kernel
theorem dX12_pawnGoes_127 : decode cX12_pawnGoes 127 = .ok (.iconst (-1), 1) := by decide +kernel
theorem dX12_pawnGoes_128 : decode cX12_pawnGoes 128 = .ok (.if_icmp .ne 33, 3) := by decide +kernel
theorem dX12_pawnGoes_131 : decode cX12_pawnGoes 131 = .ok (.aload_n 0, 1) := by decide +kernel
theorem dX12_pawnGoes_132 : decode cX12_pawnGoes 132 = .ok (.getfield 70, 3) := by decide +kernel
theorem dX12_pawnGoes_135 : decode cX12_pawnGoes 135 = .ok (.iload_n 2, 1) := by decide +kernel
theorem dX12_pawnGoes_136 : decode cX12_pawnGoes 136 = .ok (.iaload, 1) := by decide +kernel
theorem dX12_pawnGoes_137 : decode cX12_pawnGoes 137 = .ok (.invokestatic 161, 3) := by decide +kernel
theorem dX12_pawnGoes_140 : decode cX12_pawnGoes 140 = .ok (.iconst 1, 1) := by decide +kernel
theorem dX12_pawnGoes_141 : decode cX12_pawnGoes 141 = .ok (.aload_n 0, 1) := by decide +kernel
theorem dX12_pawnGoes_142 : decode cX12_pawnGoes 142 = .ok (.getfield 121, 3) := by decide +kernel
theorem dX12_pawnGoes_145 : decode cX12_pawnGoes 145 = .ok (.isub, 1) := by decide +kernel
theorem dX12_pawnGoes_146 : decode cX12_pawnGoes 146 = .ok (.if_icmp .eq 11, 3) := by decide +kernel
theorem dX12_pawnGoes_149 : decode cX12_pawnGoes 149 = .ok (.iload_n 2, 1) := by decide +kernel
theorem dX12_pawnGoes_150 : decode cX12_pawnGoes 150 = .ok (.aload_n 0, 1) := by decide +kernel
theorem dX12_pawnGoes_151 : decode cX12_pawnGoes 151 = .ok (.getfield 127, 3) := by decide +kernel
theorem dX12_pawnGoes_154 : decode cX12_pawnGoes 154 = .ok (.if_icmp .ne 7, 3) := by decide +kernel
theorem dX12_pawnGoes_157 : decode cX12_pawnGoes 157 = .ok (.iconst 1, 1) := by decide +kernel
theorem dX12_pawnGoes_158 : decode cX12_pawnGoes 158 = .ok (.goto 4, 3) := by decide +kernel
theorem dX12_pawnGoes_161 : decode cX12_pawnGoes 161 = .ok (.iconst 0, 1) := by decide +kernel
theorem dX12_pawnGoes_162 : decode cX12_pawnGoes 162 = .ok (.ireturn, 1) := by decide +kernel
theorem dX12_goes_0 : decode cX12_goes 0 = .ok (.aload_n 0, 1) := by decide +kernel
theorem dX12_goes_1 : decode cX12_goes 1 = .ok (.getfield 70, 3) := by decide +kernel
theorem dX12_goes_4 : decode cX12_goes 4 = .ok (.iload_n 1, 1) := by decide +kernel
theorem dX12_goes_5 : decode cX12_goes 5 = .ok (.iaload, 1) := by decide +kernel
theorem dX12_goes_6 : decode cX12_goes 6 = .ok (.invokestatic 161, 3) := by decide +kernel
theorem dX12_goes_9 : decode cX12_goes 9 = .ok (.aload_n 0, 1) := by decide +kernel
theorem dX12_goes_10 : decode cX12_goes 10 = .ok (.getfield 121, 3) := by decide +kernel
theorem dX12_goes_13 : decode cX12_goes 13 = .ok (.if_icmp .ne 24, 3) := by decide +kernel
theorem dX12_goes_16 : decode cX12_goes 16 = .ok (.aload_n 0, 1) := by decide +kernel
theorem dX12_goes_17 : decode cX12_goes 17 = .ok (.getfield 70, 3) := by decide +kernel
theorem dX12_goes_20 : decode cX12_goes 20 = .ok (.iload_n 2, 1) := by decide +kernel
theorem dX12_goes_21 : decode cX12_goes 21 = .ok (.iaload, 1) := by decide +kernel
theorem dX12_goes_22 : decode cX12_goes 22 = .ok (.invokestatic 161, 3) := by decide +kernel
theorem dX12_goes_25 : decode cX12_goes 25 = .ok (.aload_n 0, 1) := by decide +kernel
theorem dX12_goes_26 : decode cX12_goes 26 = .ok (.getfield 121, 3) := by decide +kernel
theorem dX12_goes_29 : decode cX12_goes 29 = .ok (.if_icmp .eq 8, 3) := by decide +kernel
theorem dX12_goes_32 : decode cX12_goes 32 = .ok (.iload_n 1, 1) := by decide +kernel
theorem dX12_goes_33 : decode cX12_goes 33 = .ok (.iload_n 2, 1) := by decide +kernel
theorem dX12_goes_34 : decode cX12_goes 34 = .ok (.if_icmp .ne 5, 3) := by decide +kernel
theorem dX12_goes_37 : decode cX12_goes 37 = .ok (.iconst 0, 1) := by decide +kernel
theorem dX12_goes_38 : decode cX12_goes 38 = .ok (.ireturn, 1) := by decide +kernel
theorem dX12_goes_39 : decode cX12_goes 39 = .ok (.aload_n 0, 1) := by decide +kernel
theorem dX12_goes_40 : decode cX12_goes 40 = .ok (.getfield 70, 3) := by decide +kernel
theorem dX12_goes_43 : decode cX12_goes 43 = .ok (.iload_n 1, 1) := by decide +kernel
theorem dX12_goes_44 : decode cX12_goes 44 = .ok (.iaload, 1) := by decide +kernel
theorem dX12_goes_45 : decode cX12_goes 45 = .ok (.invokestatic 136, 3) := by decide +kernel
theorem dX12_goes_48 : decode cX12_goes 48 = .ok (.istore_n 3, 1) := by decide +kernel
theorem dX12_goes_49 : decode cX12_goes 49 = .ok (.iload_n 3, 1) := by decide +kernel
theorem dX12_goes_50 : decode cX12_goes 50 = .ok (.iconst 1, 1) := by decide +kernel
theorem dX12_goes_51 : decode cX12_goes 51 = .ok (.if_icmp .ne 10, 3) := by decide +kernel
theorem dX12_goes_54 : decode cX12_goes 54 = .ok (.aload_n 0, 1) := by decide +kernel
theorem dX12_goes_55 : decode cX12_goes 55 = .ok (.iload_n 1, 1) := by decide +kernel
theorem dX12_goes_56 : decode cX12_goes 56 = .ok (.iload_n 2, 1) := by decide +kernel
theorem dX12_goes_57 : decode cX12_goes 57 = .ok (.invokevirtual 164, 3) := by decide +kernel
theorem dX12_goes_60 : decode cX12_goes 60 = .ok (.ireturn, 1) := by decide +kernel
theorem dX12_goes_61 : decode cX12_goes 61 = .ok (.iload_n 2, 1) := by decide +kernel
theorem dX12_goes_62 : decode cX12_goes 62 = .ok (.bipush 8, 2) := by decide +kernel
theorem dX12_goes_64 : decode cX12_goes 64 = .ok (.irem, 1) := by decide +kernel
theorem dX12_goes_65 : decode cX12_goes 65 = .ok (.iload_n 1, 1) := by decide +kernel
theorem dX12_goes_66 : decode cX12_goes 66 = .ok (.bipush 8, 2) := by decide +kernel
theorem dX12_goes_68 : decode cX12_goes 68 = .ok (.irem, 1) := by decide +kernel
theorem dX12_goes_69 : decode cX12_goes 69 = .ok (.isub, 1) := by decide +kernel
theorem dX12_goes_70 : decode cX12_goes 70 = .ok (.istore 4, 2) := by decide +kernel
theorem dX12_goes_72 : decode cX12_goes 72 = .ok (.iload_n 2, 1) := by decide +kernel
theorem dX12_goes_73 : decode cX12_goes 73 = .ok (.bipush 8, 2) := by decide +kernel
theorem dX12_goes_75 : decode cX12_goes 75 = .ok (.idiv, 1) := by decide +kernel
theorem dX12_goes_76 : decode cX12_goes 76 = .ok (.iload_n 1, 1) := by decide +kernel
theorem dX12_goes_77 : decode cX12_goes 77 = .ok (.bipush 8, 2) := by decide +kernel
theorem dX12_goes_79 : decode cX12_goes 79 = .ok (.idiv, 1) := by decide +kernel
theorem dX12_goes_80 : decode cX12_goes 80 = .ok (.isub, 1) := by decide +kernel
theorem dX12_goes_81 : decode cX12_goes 81 = .ok (.istore 5, 2) := by decide +kernel
theorem dX12_goes_83 : decode cX12_goes 83 = .ok (.iload 4, 2) := by decide +kernel
theorem dX12_goes_85 : decode cX12_goes 85 = .ok (.iload 4, 2) := by decide +kernel
theorem dX12_goes_87 : decode cX12_goes 87 = .ok (.imul, 1) := by decide +kernel
theorem dX12_goes_88 : decode cX12_goes 88 = .ok (.iload 5, 2) := by decide +kernel
theorem dX12_goes_90 : decode cX12_goes 90 = .ok (.iload 5, 2) := by decide +kernel
theorem dX12_goes_92 : decode cX12_goes 92 = .ok (.imul, 1) := by decide +kernel
theorem dX12_goes_93 : decode cX12_goes 93 = .ok (.iadd, 1) := by decide +kernel
theorem dX12_goes_94 : decode cX12_goes 94 = .ok (.istore 6, 2) := by decide +kernel
theorem dX12_goes_96 : decode cX12_goes 96 = .ok (.iload_n 3, 1) := by decide +kernel
theorem dX12_goes_97 : decode cX12_goes 97 = .ok (.iconst 2, 1) := by decide +kernel
theorem dX12_goes_98 : decode cX12_goes 98 = .ok (.if_icmp .ne 15, 3) := by decide +kernel
theorem dX12_goes_101 : decode cX12_goes 101 = .ok (.iload 6, 2) := by decide +kernel
theorem dX12_goes_103 : decode cX12_goes 103 = .ok (.iconst 5, 1) := by decide +kernel
theorem dX12_goes_104 : decode cX12_goes 104 = .ok (.if_icmp .ne 7, 3) := by decide +kernel
theorem dX12_goes_107 : decode cX12_goes 107 = .ok (.iconst 1, 1) := by decide +kernel
theorem dX12_goes_108 : decode cX12_goes 108 = .ok (.goto 4, 3) := by decide +kernel
theorem dX12_goes_111 : decode cX12_goes 111 = .ok (.iconst 0, 1) := by decide +kernel
theorem dX12_goes_112 : decode cX12_goes 112 = .ok (.ireturn, 1) := by decide +kernel
theorem dX12_goes_113 : decode cX12_goes 113 = .ok (.iload_n 3, 1) := by decide +kernel
theorem dX12_goes_114 : decode cX12_goes 114 = .ok (.bipush 6, 2) := by decide +kernel
theorem dX12_goes_116 : decode cX12_goes 116 = .ok (.if_icmp .ne 47, 3) := by decide +kernel
theorem dX12_goes_119 : decode cX12_goes 119 = .ok (.iload 6, 2) := by decide +kernel
theorem dX12_goes_121 : decode cX12_goes 121 = .ok (.iconst 3, 1) := by decide +kernel
theorem dX12_goes_122 : decode cX12_goes 122 = .ok (.if_icmp .lt 35, 3) := by decide +kernel
theorem dX12_goes_125 : decode cX12_goes 125 = .ok (.iload_n 1, 1) := by decide +kernel
theorem dX12_goes_126 : decode cX12_goes 126 = .ok (.iconst 4, 1) := by decide +kernel
theorem dX12_goes_127 : decode cX12_goes 127 = .ok (.bipush 56, 2) := by decide +kernel
theorem dX12_goes_129 : decode cX12_goes 129 = .ok (.aload_n 0, 1) := by decide +kernel
theorem dX12_goes_130 : decode cX12_goes 130 = .ok (.getfield 121, 3) := by decide +kernel
theorem dX12_goes_133 : decode cX12_goes 133 = .ok (.imul, 1) := by decide +kernel
theorem dX12_goes_134 : decode cX12_goes 134 = .ok (.iadd, 1) := by decide +kernel
theorem dX12_goes_135 : decode cX12_goes 135 = .ok (.if_icmp .ne 26, 3) := by decide +kernel
theorem dX12_goes_138 : decode cX12_goes 138 = .ok (.iload 5, 2) := by decide +kernel
theorem dX12_goes_140 : decode cX12_goes 140 = .ok (.ifCond .ne 21, 3) := by decide +kernel
theorem dX12_goes_143 : decode cX12_goes 143 = .ok (.iload 6, 2) := by decide +kernel
theorem dX12_goes_145 : decode cX12_goes 145 = .ok (.iconst 4, 1) := by decide +kernel
theorem dX12_goes_146 : decode cX12_goes 146 = .ok (.if_icmp .ne 15, 3) := by decide +kernel
theorem dX12_goes_149 : decode cX12_goes 149 = .ok (.aload_n 0, 1) := by decide +kernel
theorem dX12_goes_150 : decode cX12_goes 150 = .ok (.iload_n 2, 1) := by decide +kernel
theorem dX12_goes_151 : decode cX12_goes 151 = .ok (.invokevirtual 167, 3) := by decide +kernel
theorem dX12_goes_154 : decode cX12_goes 154 = .ok (.ifCond .eq 7, 3) := by decide +kernel
theorem dX12_goes_157 : decode cX12_goes 157 = .ok (.iconst 1, 1) := by decide +kernel
theorem dX12_goes_158 : decode cX12_goes 158 = .ok (.goto 4, 3) := by decide +kernel
theorem dX12_goes_161 : decode cX12_goes 161 = .ok (.iconst 0, 1) := by decide +kernel
theorem dX12_goes_162 : decode cX12_goes 162 = .ok (.ireturn, 1) := by decide +kernel
theorem dX12_goes_163 : decode cX12_goes 163 = .ok (.iload 4, 2) := by decide +kernel
theorem dX12_goes_165 : decode cX12_goes 165 = .ok (.ifCond .eq 8, 3) := by decide +kernel
theorem dX12_goes_168 : decode cX12_goes 168 = .ok (.iload 5, 2) := by decide +kernel
theorem dX12_goes_170 : decode cX12_goes 170 = .ok (.ifCond .ne 7, 3) := by decide +kernel
theorem dX12_goes_173 : decode cX12_goes 173 = .ok (.iconst 1, 1) := by decide +kernel
theorem dX12_goes_174 : decode cX12_goes 174 = .ok (.goto 4, 3) := by decide +kernel
theorem dX12_goes_177 : decode cX12_goes 177 = .ok (.iconst 0, 1) := by decide +kernel
theorem dX12_goes_178 : decode cX12_goes 178 = .ok (.istore 7, 2) := by decide +kernel
theorem dX12_goes_180 : decode cX12_goes 180 = .ok (.iload 7, 2) := by decide +kernel
theorem dX12_goes_182 : decode cX12_goes 182 = .ok (.ifCond .ne 18, 3) := by decide +kernel
theorem dX12_goes_185 : decode cX12_goes 185 = .ok (.iload 4, 2) := by decide +kernel
theorem dX12_goes_187 : decode cX12_goes 187 = .ok (.iload 5, 2) := by decide +kernel
theorem dX12_goes_189 : decode cX12_goes 189 = .ok (.if_icmp .eq 11, 3) := by decide +kernel
theorem dX12_goes_192 : decode cX12_goes 192 = .ok (.iload 4, 2) := by decide +kernel
theorem dX12_goes_194 : decode cX12_goes 194 = .ok (.iload 5, 2) := by decide +kernel
theorem dX12_goes_196 : decode cX12_goes 196 = .ok (.ineg, 1) := by decide +kernel
theorem dX12_goes_197 : decode cX12_goes 197 = .ok (.if_icmp .ne 23, 3) := by decide +kernel
theorem dX12_goes_200 : decode cX12_goes 200 = .ok (.iload 7, 2) := by decide +kernel
theorem dX12_goes_202 : decode cX12_goes 202 = .ok (.ifCond .eq 8, 3) := by decide +kernel
theorem dX12_goes_205 : decode cX12_goes 205 = .ok (.iload_n 3, 1) := by decide +kernel
theorem dX12_goes_206 : decode cX12_goes 206 = .ok (.iconst 3, 1) := by decide +kernel
theorem dX12_goes_207 : decode cX12_goes 207 = .ok (.if_icmp .eq 13, 3) := by decide +kernel
theorem dX12_goes_210 : decode cX12_goes 210 = .ok (.iload 7, 2) := by decide +kernel
theorem dX12_goes_212 : decode cX12_goes 212 = .ok (.ifCond .ne 10, 3) := by decide +kernel
theorem dX12_goes_215 : decode cX12_goes 215 = .ok (.iload_n 3, 1) := by decide +kernel
theorem dX12_goes_216 : decode cX12_goes 216 = .ok (.iconst 4, 1) := by decide +kernel
theorem dX12_goes_217 : decode cX12_goes 217 = .ok (.if_icmp .ne 5, 3) := by decide +kernel
theorem dX12_goes_220 : decode cX12_goes 220 = .ok (.iconst 0, 1) := by decide +kernel
theorem dX12_goes_221 : decode cX12_goes 221 = .ok (.ireturn, 1) := by decide +kernel
theorem dX12_goes_222 : decode cX12_goes 222 = .ok (.iload 4, 2) := by decide +kernel
theorem dX12_goes_224 : decode cX12_goes 224 = .ok (.ifCond .le 7, 3) := by decide +kernel
theorem dX12_goes_227 : decode cX12_goes 227 = .ok (.iconst 1, 1) := by decide +kernel
theorem dX12_goes_228 : decode cX12_goes 228 = .ok (.goto 13, 3) := by decide +kernel
theorem dX12_goes_231 : decode cX12_goes 231 = .ok (.iload 4, 2) := by decide +kernel
theorem dX12_goes_233 : decode cX12_goes 233 = .ok (.ifCond .ge 7, 3) := by decide +kernel
theorem dX12_goes_236 : decode cX12_goes 236 = .ok (.iconst (-1), 1) := by decide +kernel
theorem dX12_goes_237 : decode cX12_goes 237 = .ok (.goto 4, 3) := by decide +kernel
theorem dX12_goes_240 : decode cX12_goes 240 = .ok (.iconst 0, 1) := by decide +kernel
theorem dX12_goes_241 : decode cX12_goes 241 = .ok (.istore 8, 2) := by decide +kernel
theorem dX12_goes_243 : decode cX12_goes 243 = .ok (.iload 5, 2) := by decide +kernel
theorem dX12_goes_245 : decode cX12_goes 245 = .ok (.ifCond .le 7, 3) := by decide +kernel
theorem dX12_goes_248 : decode cX12_goes 248 = .ok (.iconst 1, 1) := by decide +kernel
theorem dX12_goes_249 : decode cX12_goes 249 = .ok (.goto 13, 3) := by decide +kernel
theorem dX12_goes_252 : decode cX12_goes 252 = .ok (.iload 5, 2) := by decide +kernel
theorem dX12_goes_254 : decode cX12_goes 254 = .ok (.ifCond .ge 7, 3) := by decide +kernel
theorem dX12_goes_257 : decode cX12_goes 257 = .ok (.iconst (-1), 1) := by decide +kernel
theorem dX12_goes_258 : decode cX12_goes 258 = .ok (.goto 4, 3) := by decide +kernel
theorem dX12_goes_261 : decode cX12_goes 261 = .ok (.iconst 0, 1) := by decide +kernel
theorem dX12_goes_262 : decode cX12_goes 262 = .ok (.istore 9, 2) := by decide +kernel
theorem dX12_goes_264 : decode cX12_goes 264 = .ok (.iload_n 1, 1) := by decide +kernel
theorem dX12_goes_265 : decode cX12_goes 265 = .ok (.iload 8, 2) := by decide +kernel
theorem dX12_goes_267 : decode cX12_goes 267 = .ok (.iload 9, 2) := by decide +kernel
theorem dX12_goes_269 : decode cX12_goes 269 = .ok (.invokestatic 103, 3) := by decide +kernel
theorem dX12_goes_272 : decode cX12_goes 272 = .ok (.istore 10, 2) := by decide +kernel
theorem dX12_goes_274 : decode cX12_goes 274 = .ok (.iload 10, 2) := by decide +kernel
theorem dX12_goes_276 : decode cX12_goes 276 = .ok (.iload_n 2, 1) := by decide +kernel
theorem dX12_goes_277 : decode cX12_goes 277 = .ok (.if_icmp .eq 27, 3) := by decide +kernel
theorem dX12_goes_280 : decode cX12_goes 280 = .ok (.aload_n 0, 1) := by decide +kernel
theorem dX12_goes_281 : decode cX12_goes 281 = .ok (.getfield 70, 3) := by decide +kernel
theorem dX12_goes_284 : decode cX12_goes 284 = .ok (.iload 10, 2) := by decide +kernel
theorem dX12_goes_286 : decode cX12_goes 286 = .ok (.iaload, 1) := by decide +kernel
theorem dX12_goes_287 : decode cX12_goes 287 = .ok (.ifCond .ne 17, 3) := by decide +kernel
theorem dX12_goes_290 : decode cX12_goes 290 = .ok (.iload 10, 2) := by decide +kernel
theorem dX12_goes_292 : decode cX12_goes 292 = .ok (.iload 8, 2) := by decide +kernel
theorem dX12_goes_294 : decode cX12_goes 294 = .ok (.iload 9, 2) := by decide +kernel
theorem dX12_goes_296 : decode cX12_goes 296 = .ok (.invokestatic 103, 3) := by decide +kernel
theorem dX12_goes_299 : decode cX12_goes 299 = .ok (.istore 10, 2) := by decide +kernel
theorem dX12_goes_301 : decode cX12_goes 301 = .ok (.goto (-27), 3) := by decide +kernel
theorem dX12_goes_304 : decode cX12_goes 304 = .ok (.iload 10, 2) := by decide +kernel
theorem dX12_goes_306 : decode cX12_goes 306 = .ok (.iload_n 2, 1) := by decide +kernel
theorem dX12_goes_307 : decode cX12_goes 307 = .ok (.if_icmp .ne 7, 3) := by decide +kernel
theorem dX12_goes_310 : decode cX12_goes 310 = .ok (.iconst 1, 1) := by decide +kernel
theorem dX12_goes_311 : decode cX12_goes 311 = .ok (.goto 4, 3) := by decide +kernel
theorem dX12_goes_314 : decode cX12_goes 314 = .ok (.iconst 0, 1) := by decide +kernel
theorem dX12_goes_315 : decode cX12_goes 315 = .ok (.ireturn, 1) := by decide +kernel
theorem dX12_findMoves_0 : decode cX12_findMoves 0 = .ok (.aload_n 0, 1) := by decide +kernel
theorem dX12_findMoves_1 : decode cX12_findMoves 1 = .ok (.iconst 0, 1) := by decide +kernel
theorem dX12_findMoves_2 : decode cX12_findMoves 2 = .ok (.putfield 170, 3) := by decide +kernel
theorem dX12_findMoves_5 : decode cX12_findMoves 5 = .ok (.iconst 0, 1) := by decide +kernel
theorem dX12_findMoves_6 : decode cX12_findMoves 6 = .ok (.istore_n 1, 1) := by decide +kernel
theorem dX12_findMoves_7 : decode cX12_findMoves 7 = .ok (.iload_n 1, 1) := by decide +kernel
theorem dX12_findMoves_8 : decode cX12_findMoves 8 = .ok (.bipush 64, 2) := by decide +kernel
theorem dX12_findMoves_10 : decode cX12_findMoves 10 = .ok (.if_icmp .ge 159, 3) := by decide +kernel
theorem dX12_findMoves_13 : decode cX12_findMoves 13 = .ok (.iconst 0, 1) := by decide +kernel
theorem dX12_findMoves_14 : decode cX12_findMoves 14 = .ok (.istore_n 2, 1) := by decide +kernel
theorem dX12_findMoves_15 : decode cX12_findMoves 15 = .ok (.iload_n 2, 1) := by decide +kernel
theorem dX12_findMoves_16 : decode cX12_findMoves 16 = .ok (.bipush 64, 2) := by decide +kernel
theorem dX12_findMoves_18 : decode cX12_findMoves 18 = .ok (.if_icmp .ge 145, 3) := by decide +kernel
theorem dX12_findMoves_21 : decode cX12_findMoves 21 = .ok (.aload_n 0, 1) := by decide +kernel
theorem dX12_findMoves_22 : decode cX12_findMoves 22 = .ok (.getfield 70, 3) := by decide +kernel
theorem dX12_findMoves_25 : decode cX12_findMoves 25 = .ok (.iload_n 1, 1) := by decide +kernel
theorem dX12_findMoves_26 : decode cX12_findMoves 26 = .ok (.iaload, 1) := by decide +kernel
theorem dX12_findMoves_27 : decode cX12_findMoves 27 = .ok (.invokestatic 161, 3) := by decide +kernel
theorem dX12_findMoves_30 : decode cX12_findMoves 30 = .ok (.aload_n 0, 1) := by decide +kernel
theorem dX12_findMoves_31 : decode cX12_findMoves 31 = .ok (.getfield 121, 3) := by decide +kernel
theorem dX12_findMoves_34 : decode cX12_findMoves 34 = .ok (.if_icmp .ne 129, 3) := by decide +kernel
theorem dX12_findMoves_37 : decode cX12_findMoves 37 = .ok (.aload_n 0, 1) := by decide +kernel
theorem dX12_findMoves_38 : decode cX12_findMoves 38 = .ok (.iload_n 1, 1) := by decide +kernel
theorem dX12_findMoves_39 : decode cX12_findMoves 39 = .ok (.iload_n 2, 1) := by decide +kernel
theorem dX12_findMoves_40 : decode cX12_findMoves 40 = .ok (.invokevirtual 173, 3) := by decide +kernel
theorem dX12_findMoves_43 : decode cX12_findMoves 43 = .ok (.ifCond .eq 114, 3) := by decide +kernel
theorem dX12_findMoves_46 : decode cX12_findMoves 46 = .ok (.aload_n 0, 1) := by decide +kernel
theorem dX12_findMoves_47 : decode cX12_findMoves 47 = .ok (.getfield 70, 3) := by decide +kernel
theorem dX12_findMoves_50 : decode cX12_findMoves 50 = .ok (.iload_n 1, 1) := by decide +kernel
theorem dX12_findMoves_51 : decode cX12_findMoves 51 = .ok (.iaload, 1) := by decide +kernel
theorem dX12_findMoves_52 : decode cX12_findMoves 52 = .ok (.invokestatic 136, 3) := by decide +kernel
theorem dX12_findMoves_55 : decode cX12_findMoves 55 = .ok (.iconst 1, 1) := by decide +kernel
theorem dX12_findMoves_56 : decode cX12_findMoves 56 = .ok (.if_icmp .ne 19, 3) := by decide +kernel
theorem dX12_findMoves_59 : decode cX12_findMoves 59 = .ok (.iload_n 2, 1) := by decide +kernel
theorem dX12_findMoves_60 : decode cX12_findMoves 60 = .ok (.bipush 8, 2) := by decide +kernel
theorem dX12_findMoves_62 : decode cX12_findMoves 62 = .ok (.if_icmp .lt 9, 3) := by decide +kernel
theorem dX12_findMoves_65 : decode cX12_findMoves 65 = .ok (.iload_n 2, 1) := by decide +kernel
theorem dX12_findMoves_66 : decode cX12_findMoves 66 = .ok (.bipush 55, 2) := by decide +kernel
theorem dX12_findMoves_68 : decode cX12_findMoves 68 = .ok (.if_icmp .le 7, 3) := by decide +kernel
theorem dX12_findMoves_71 : decode cX12_findMoves 71 = .ok (.iconst 1, 1) := by decide +kernel
theorem dX12_findMoves_72 : decode cX12_findMoves 72 = .ok (.goto 4, 3) := by decide +kernel
theorem dX12_findMoves_75 : decode cX12_findMoves 75 = .ok (.iconst 0, 1) := by decide +kernel
theorem dX12_findMoves_76 : decode cX12_findMoves 76 = .ok (.istore_n 3, 1) := by decide +kernel
theorem dX12_findMoves_77 : decode cX12_findMoves 77 = .ok (.aload_n 0, 1) := by decide +kernel
theorem dX12_findMoves_78 : decode cX12_findMoves 78 = .ok (.iload_n 1, 1) := by decide +kernel
theorem dX12_findMoves_79 : decode cX12_findMoves 79 = .ok (.bipush 64, 2) := by decide +kernel
theorem dX12_findMoves_81 : decode cX12_findMoves 81 = .ok (.iload_n 2, 1) := by decide +kernel
theorem dX12_findMoves_82 : decode cX12_findMoves 82 = .ok (.imul, 1) := by decide +kernel
theorem dX12_findMoves_83 : decode cX12_findMoves 83 = .ok (.iadd, 1) := by decide +kernel
theorem dX12_findMoves_84 : decode cX12_findMoves 84 = .ok (.invokevirtual 176, 3) := by decide +kernel
theorem dX12_findMoves_87 : decode cX12_findMoves 87 = .ok (.istore 4, 2) := by decide +kernel
theorem dX12_findMoves_89 : decode cX12_findMoves 89 = .ok (.iload_n 3, 1) := by decide +kernel
theorem dX12_findMoves_90 : decode cX12_findMoves 90 = .ok (.ifCond .eq 7, 3) := by decide +kernel
theorem dX12_findMoves_93 : decode cX12_findMoves 93 = .ok (.iconst 2, 1) := by decide +kernel
theorem dX12_findMoves_94 : decode cX12_findMoves 94 = .ok (.goto 4, 3) := by decide +kernel
theorem dX12_findMoves_97 : decode cX12_findMoves 97 = .ok (.iconst 0, 1) := by decide +kernel
theorem dX12_findMoves_98 : decode cX12_findMoves 98 = .ok (.istore 5, 2) := by decide +kernel
theorem dX12_findMoves_100 : decode cX12_findMoves 100 = .ok (.iload 4, 2) := by decide +kernel
theorem dX12_findMoves_102 : decode cX12_findMoves 102 = .ok (.ifCond .eq 55, 3) := by decide +kernel
theorem dX12_findMoves_105 : decode cX12_findMoves 105 = .ok (.iload 5, 2) := by decide +kernel
theorem dX12_findMoves_107 : decode cX12_findMoves 107 = .ok (.iload_n 3, 1) := by decide +kernel
theorem dX12_findMoves_108 : decode cX12_findMoves 108 = .ok (.ifCond .eq 7, 3) := by decide +kernel
theorem dX12_findMoves_111 : decode cX12_findMoves 111 = .ok (.iconst 5, 1) := by decide +kernel
theorem dX12_findMoves_112 : decode cX12_findMoves 112 = .ok (.goto 4, 3) := by decide +kernel
theorem dX12_findMoves_115 : decode cX12_findMoves 115 = .ok (.iconst 0, 1) := by decide +kernel
theorem dX12_findMoves_116 : decode cX12_findMoves 116 = .ok (.if_icmp .gt 41, 3) := by decide +kernel
theorem dX12_findMoves_119 : decode cX12_findMoves 119 = .ok (.aload_n 0, 1) := by decide +kernel
theorem dX12_findMoves_120 : decode cX12_findMoves 120 = .ok (.getfield 79, 3) := by decide +kernel
theorem dX12_findMoves_123 : decode cX12_findMoves 123 = .ok (.aload_n 0, 1) := by decide +kernel
theorem dX12_findMoves_124 : decode cX12_findMoves 124 = .ok (.getfield 170, 3) := by decide +kernel
theorem dX12_findMoves_127 : decode cX12_findMoves 127 = .ok (.iload_n 1, 1) := by decide +kernel
theorem dX12_findMoves_128 : decode cX12_findMoves 128 = .ok (.bipush 64, 2) := by decide +kernel
theorem dX12_findMoves_130 : decode cX12_findMoves 130 = .ok (.iload_n 2, 1) := by decide +kernel
theorem dX12_findMoves_131 : decode cX12_findMoves 131 = .ok (.imul, 1) := by decide +kernel
theorem dX12_findMoves_132 : decode cX12_findMoves 132 = .ok (.iadd, 1) := by decide +kernel
theorem dX12_findMoves_133 : decode cX12_findMoves 133 = .ok (.sipush 4096, 3) := by decide +kernel
theorem dX12_findMoves_136 : decode cX12_findMoves 136 = .ok (.iload 5, 2) := by decide +kernel
theorem dX12_findMoves_138 : decode cX12_findMoves 138 = .ok (.imul, 1) := by decide +kernel
theorem dX12_findMoves_139 : decode cX12_findMoves 139 = .ok (.iadd, 1) := by decide +kernel
theorem dX12_findMoves_140 : decode cX12_findMoves 140 = .ok (.iastore, 1) := by decide +kernel
theorem dX12_findMoves_141 : decode cX12_findMoves 141 = .ok (.aload_n 0, 1) := by decide +kernel
theorem dX12_findMoves_142 : decode cX12_findMoves 142 = .ok (.dup, 1) := by decide +kernel
theorem dX12_findMoves_143 : decode cX12_findMoves 143 = .ok (.getfield 170, 3) := by decide +kernel
theorem dX12_findMoves_146 : decode cX12_findMoves 146 = .ok (.iconst 1, 1) := by decide +kernel
theorem dX12_findMoves_147 : decode cX12_findMoves 147 = .ok (.iadd, 1) := by decide +kernel
theorem dX12_findMoves_148 : decode cX12_findMoves 148 = .ok (.putfield 170, 3) := by decide +kernel
theorem dX12_findMoves_151 : decode cX12_findMoves 151 = .ok (.iinc 5 1, 3) := by decide +kernel
theorem dX12_findMoves_154 : decode cX12_findMoves 154 = .ok (.goto (-54), 3) := by decide +kernel
theorem dX12_findMoves_157 : decode cX12_findMoves 157 = .ok (.iinc 2 1, 3) := by decide +kernel
theorem dX12_findMoves_160 : decode cX12_findMoves 160 = .ok (.goto (-145), 3) := by decide +kernel
theorem dX12_findMoves_163 : decode cX12_findMoves 163 = .ok (.iinc 1 1, 3) := by decide +kernel
theorem dX12_findMoves_166 : decode cX12_findMoves 166 = .ok (.goto (-159), 3) := by decide +kernel
theorem dX12_findMoves_169 : decode cX12_findMoves 169 = .ok (.return_, 1) := by decide +kernel
theorem dX12_clearGame_0 : decode cX12_clearGame 0 = .ok (.aload_n 0, 1) := by decide +kernel
theorem dX12_clearGame_1 : decode cX12_clearGame 1 = .ok (.getfield 17, 3) := by decide +kernel
theorem dX12_clearGame_4 : decode cX12_clearGame 4 = .ok (.iload_n 1, 1) := by decide +kernel
theorem dX12_clearGame_5 : decode cX12_clearGame 5 = .ok (.iconst 0, 1) := by decide +kernel
theorem dX12_clearGame_6 : decode cX12_clearGame 6 = .ok (.iastore, 1) := by decide +kernel
theorem dX12_clearGame_7 : decode cX12_clearGame 7 = .ok (.aload_n 0, 1) := by decide +kernel
theorem dX12_clearGame_8 : decode cX12_clearGame 8 = .ok (.getfield 52, 3) := by decide +kernel
theorem dX12_clearGame_11 : decode cX12_clearGame 11 = .ok (.iload_n 1, 1) := by decide +kernel
theorem dX12_clearGame_12 : decode cX12_clearGame 12 = .ok (.iconst 0, 1) := by decide +kernel
theorem dX12_clearGame_13 : decode cX12_clearGame 13 = .ok (.iastore, 1) := by decide +kernel
theorem dX12_clearGame_14 : decode cX12_clearGame 14 = .ok (.aload_n 0, 1) := by decide +kernel
theorem dX12_clearGame_15 : decode cX12_clearGame 15 = .ok (.getfield 67, 3) := by decide +kernel
theorem dX12_clearGame_18 : decode cX12_clearGame 18 = .ok (.iload_n 1, 1) := by decide +kernel
theorem dX12_clearGame_19 : decode cX12_clearGame 19 = .ok (.iconst 0, 1) := by decide +kernel
theorem dX12_clearGame_20 : decode cX12_clearGame 20 = .ok (.iastore, 1) := by decide +kernel
theorem dX12_clearGame_21 : decode cX12_clearGame 21 = .ok (.aload_n 0, 1) := by decide +kernel
theorem dX12_clearGame_22 : decode cX12_clearGame 22 = .ok (.sipush 301, 3) := by decide +kernel
theorem dX12_clearGame_25 : decode cX12_clearGame 25 = .ok (.iload_n 1, 1) := by decide +kernel
theorem dX12_clearGame_26 : decode cX12_clearGame 26 = .ok (.imul, 1) := by decide +kernel
theorem dX12_clearGame_27 : decode cX12_clearGame 27 = .ok (.invokevirtual 179, 3) := by decide +kernel
theorem dX12_clearGame_30 : decode cX12_clearGame 30 = .ok (.aload_n 0, 1) := by decide +kernel
theorem dX12_clearGame_31 : decode cX12_clearGame 31 = .ok (.getfield 21, 3) := by decide +kernel
theorem dX12_clearGame_34 : decode cX12_clearGame 34 = .ok (.sipush 301, 3) := by decide +kernel
theorem dX12_clearGame_37 : decode cX12_clearGame 37 = .ok (.iload_n 1, 1) := by decide +kernel
theorem dX12_clearGame_38 : decode cX12_clearGame 38 = .ok (.imul, 1) := by decide +kernel
theorem dX12_clearGame_39 : decode cX12_clearGame 39 = .ok (.iconst (-1), 1) := by decide +kernel
theorem dX12_clearGame_40 : decode cX12_clearGame 40 = .ok (.iastore, 1) := by decide +kernel
theorem dX12_clearGame_41 : decode cX12_clearGame 41 = .ok (.aload_n 0, 1) := by decide +kernel
theorem dX12_clearGame_42 : decode cX12_clearGame 42 = .ok (.getfield 24, 3) := by decide +kernel
theorem dX12_clearGame_45 : decode cX12_clearGame 45 = .ok (.sipush 301, 3) := by decide +kernel
theorem dX12_clearGame_48 : decode cX12_clearGame 48 = .ok (.iload_n 1, 1) := by decide +kernel
theorem dX12_clearGame_49 : decode cX12_clearGame 49 = .ok (.imul, 1) := by decide +kernel
theorem dX12_clearGame_50 : decode cX12_clearGame 50 = .ok (.iconst (-1), 1) := by decide +kernel
theorem dX12_clearGame_51 : decode cX12_clearGame 51 = .ok (.iastore, 1) := by decide +kernel
theorem dX12_clearGame_52 : decode cX12_clearGame 52 = .ok (.return_, 1) := by decide +kernel
theorem dX12_clearNode_0 : decode cX12_clearNode 0 = .ok (.aload_n 0, 1) := by decide +kernel
theorem dX12_clearNode_1 : decode cX12_clearNode 1 = .ok (.getfield 27, 3) := by decide +kernel
theorem dX12_clearNode_4 : decode cX12_clearNode 4 = .ok (.iload_n 1, 1) := by decide +kernel
theorem dX12_clearNode_5 : decode cX12_clearNode 5 = .ok (.iconst (-1), 1) := by decide +kernel
theorem dX12_clearNode_6 : decode cX12_clearNode 6 = .ok (.iastore, 1) := by decide +kernel
theorem dX12_clearNode_7 : decode cX12_clearNode 7 = .ok (.aload_n 0, 1) := by decide +kernel
theorem dX12_clearNode_8 : decode cX12_clearNode 8 = .ok (.getfield 30, 3) := by decide +kernel
theorem dX12_clearNode_11 : decode cX12_clearNode 11 = .ok (.iload_n 1, 1) := by decide +kernel
theorem dX12_clearNode_12 : decode cX12_clearNode 12 = .ok (.iconst (-1), 1) := by decide +kernel
theorem dX12_clearNode_13 : decode cX12_clearNode 13 = .ok (.iastore, 1) := by decide +kernel
theorem dX12_clearNode_14 : decode cX12_clearNode 14 = .ok (.aload_n 0, 1) := by decide +kernel
theorem dX12_clearNode_15 : decode cX12_clearNode 15 = .ok (.getfield 33, 3) := by decide +kernel
theorem dX12_clearNode_18 : decode cX12_clearNode 18 = .ok (.iload_n 1, 1) := by decide +kernel
theorem dX12_clearNode_19 : decode cX12_clearNode 19 = .ok (.iconst 0, 1) := by decide +kernel
theorem dX12_clearNode_20 : decode cX12_clearNode 20 = .ok (.iastore, 1) := by decide +kernel
theorem dX12_clearNode_21 : decode cX12_clearNode 21 = .ok (.aload_n 0, 1) := by decide +kernel
theorem dX12_clearNode_22 : decode cX12_clearNode 22 = .ok (.getfield 39, 3) := by decide +kernel
theorem dX12_clearNode_25 : decode cX12_clearNode 25 = .ok (.iload_n 1, 1) := by decide +kernel
theorem dX12_clearNode_26 : decode cX12_clearNode 26 = .ok (.iconst 0, 1) := by decide +kernel
theorem dX12_clearNode_27 : decode cX12_clearNode 27 = .ok (.iastore, 1) := by decide +kernel
theorem dX12_clearNode_28 : decode cX12_clearNode 28 = .ok (.return_, 1) := by decide +kernel
theorem dX12_usual_0 : decode cX12_usual 0 = .ok (.iconst 0, 1) := by decide +kernel
theorem dX12_usual_1 : decode cX12_usual 1 = .ok (.istore_n 2, 1) := by decide +kernel
theorem dX12_usual_2 : decode cX12_usual 2 = .ok (.iload_n 2, 1) := by decide +kernel
theorem dX12_usual_3 : decode cX12_usual 3 = .ok (.bipush 64, 2) := by decide +kernel
theorem dX12_usual_5 : decode cX12_usual 5 = .ok (.if_icmp .ge 16, 3) := by decide +kernel
theorem dX12_usual_8 : decode cX12_usual 8 = .ok (.aload_n 0, 1) := by decide +kernel
theorem dX12_usual_9 : decode cX12_usual 9 = .ok (.getfield 70, 3) := by decide +kernel
theorem dX12_usual_12 : decode cX12_usual 12 = .ok (.iload_n 2, 1) := by decide +kernel
theorem dX12_usual_13 : decode cX12_usual 13 = .ok (.iconst 0, 1) := by decide +kernel
theorem dX12_usual_14 : decode cX12_usual 14 = .ok (.iastore, 1) := by decide +kernel
theorem dX12_usual_15 : decode cX12_usual 15 = .ok (.iinc 2 1, 3) := by decide +kernel
theorem dX12_usual_18 : decode cX12_usual 18 = .ok (.goto (-16), 3) := by decide +kernel
theorem dX12_usual_21 : decode cX12_usual 21 = .ok (.iconst 0, 1) := by decide +kernel
theorem dX12_usual_22 : decode cX12_usual 22 = .ok (.istore_n 2, 1) := by decide +kernel
theorem dX12_usual_23 : decode cX12_usual 23 = .ok (.iload_n 2, 1) := by decide +kernel
theorem dX12_usual_24 : decode cX12_usual 24 = .ok (.bipush 8, 2) := by decide +kernel
theorem dX12_usual_26 : decode cX12_usual 26 = .ok (.if_icmp .ge 105, 3) := by decide +kernel
theorem dX12_usual_29 : decode cX12_usual 29 = .ok (.iload_n 2, 1) := by decide +kernel
theorem dX12_usual_30 : decode cX12_usual 30 = .ok (.ifCond .eq 9, 3) := by decide +kernel
theorem dX12_usual_33 : decode cX12_usual 33 = .ok (.iload_n 2, 1) := by decide +kernel
theorem dX12_usual_34 : decode cX12_usual 34 = .ok (.bipush 7, 2) := by decide +kernel
theorem dX12_usual_36 : decode cX12_usual 36 = .ok (.if_icmp .ne 7, 3) := by decide +kernel
theorem dX12_usual_39 : decode cX12_usual 39 = .ok (.iconst 4, 1) := by decide +kernel
theorem dX12_usual_40 : decode cX12_usual 40 = .ok (.goto 43, 3) := by decide +kernel
theorem dX12_usual_43 : decode cX12_usual 43 = .ok (.iload_n 2, 1) := by decide +kernel
theorem dX12_usual_44 : decode cX12_usual 44 = .ok (.iconst 1, 1) := by decide +kernel
theorem dX12_usual_45 : decode cX12_usual 45 = .ok (.if_icmp .eq 9, 3) := by decide +kernel
theorem dX12_usual_48 : decode cX12_usual 48 = .ok (.iload_n 2, 1) := by decide +kernel
theorem dX12_usual_49 : decode cX12_usual 49 = .ok (.bipush 6, 2) := by decide +kernel
theorem dX12_usual_51 : decode cX12_usual 51 = .ok (.if_icmp .ne 7, 3) := by decide +kernel
theorem dX12_usual_54 : decode cX12_usual 54 = .ok (.iconst 2, 1) := by decide +kernel
theorem dX12_usual_55 : decode cX12_usual 55 = .ok (.goto 28, 3) := by decide +kernel
theorem dX12_usual_58 : decode cX12_usual 58 = .ok (.iload_n 2, 1) := by decide +kernel
theorem dX12_usual_59 : decode cX12_usual 59 = .ok (.iconst 2, 1) := by decide +kernel
theorem dX12_usual_60 : decode cX12_usual 60 = .ok (.if_icmp .eq 8, 3) := by decide +kernel
theorem dX12_usual_63 : decode cX12_usual 63 = .ok (.iload_n 2, 1) := by decide +kernel
theorem dX12_usual_64 : decode cX12_usual 64 = .ok (.iconst 5, 1) := by decide +kernel
theorem dX12_usual_65 : decode cX12_usual 65 = .ok (.if_icmp .ne 7, 3) := by decide +kernel
theorem dX12_usual_68 : decode cX12_usual 68 = .ok (.iconst 3, 1) := by decide +kernel
theorem dX12_usual_69 : decode cX12_usual 69 = .ok (.goto 14, 3) := by decide +kernel
theorem dX12_usual_72 : decode cX12_usual 72 = .ok (.iload_n 2, 1) := by decide +kernel
theorem dX12_usual_73 : decode cX12_usual 73 = .ok (.iconst 3, 1) := by decide +kernel
theorem dX12_usual_74 : decode cX12_usual 74 = .ok (.if_icmp .ne 7, 3) := by decide +kernel
theorem dX12_usual_77 : decode cX12_usual 77 = .ok (.iconst 5, 1) := by decide +kernel
theorem dX12_usual_78 : decode cX12_usual 78 = .ok (.goto 5, 3) := by decide +kernel
theorem dX12_usual_81 : decode cX12_usual 81 = .ok (.bipush 6, 2) := by decide +kernel
theorem dX12_usual_83 : decode cX12_usual 83 = .ok (.istore_n 3, 1) := by decide +kernel
theorem dX12_usual_84 : decode cX12_usual 84 = .ok (.aload_n 0, 1) := by decide +kernel
theorem dX12_usual_85 : decode cX12_usual 85 = .ok (.getfield 70, 3) := by decide +kernel
theorem dX12_usual_88 : decode cX12_usual 88 = .ok (.iload_n 2, 1) := by decide +kernel
theorem dX12_usual_89 : decode cX12_usual 89 = .ok (.iload_n 3, 1) := by decide +kernel
theorem dX12_usual_90 : decode cX12_usual 90 = .ok (.iastore, 1) := by decide +kernel
theorem dX12_usual_91 : decode cX12_usual 91 = .ok (.aload_n 0, 1) := by decide +kernel
theorem dX12_usual_92 : decode cX12_usual 92 = .ok (.getfield 70, 3) := by decide +kernel
theorem dX12_usual_95 : decode cX12_usual 95 = .ok (.bipush 8, 2) := by decide +kernel
theorem dX12_usual_97 : decode cX12_usual 97 = .ok (.iload_n 2, 1) := by decide +kernel
theorem dX12_usual_98 : decode cX12_usual 98 = .ok (.iadd, 1) := by decide +kernel
theorem dX12_usual_99 : decode cX12_usual 99 = .ok (.iconst 1, 1) := by decide +kernel
theorem dX12_usual_100 : decode cX12_usual 100 = .ok (.iastore, 1) := by decide +kernel
theorem dX12_usual_101 : decode cX12_usual 101 = .ok (.aload_n 0, 1) := by decide +kernel
theorem dX12_usual_102 : decode cX12_usual 102 = .ok (.getfield 70, 3) := by decide +kernel
theorem dX12_usual_105 : decode cX12_usual 105 = .ok (.bipush 48, 2) := by decide +kernel
theorem dX12_usual_107 : decode cX12_usual 107 = .ok (.iload_n 2, 1) := by decide +kernel
theorem dX12_usual_108 : decode cX12_usual 108 = .ok (.iadd, 1) := by decide +kernel
theorem dX12_usual_109 : decode cX12_usual 109 = .ok (.bipush 9, 2) := by decide +kernel
theorem dX12_usual_111 : decode cX12_usual 111 = .ok (.iastore, 1) := by decide +kernel
theorem dX12_usual_112 : decode cX12_usual 112 = .ok (.aload_n 0, 1) := by decide +kernel
theorem dX12_usual_113 : decode cX12_usual 113 = .ok (.getfield 70, 3) := by decide +kernel
theorem dX12_usual_116 : decode cX12_usual 116 = .ok (.bipush 56, 2) := by decide +kernel
theorem dX12_usual_118 : decode cX12_usual 118 = .ok (.iload_n 2, 1) := by decide +kernel
theorem dX12_usual_119 : decode cX12_usual 119 = .ok (.iadd, 1) := by decide +kernel
theorem dX12_usual_120 : decode cX12_usual 120 = .ok (.iload_n 3, 1) := by decide +kernel
theorem dX12_usual_121 : decode cX12_usual 121 = .ok (.bipush 8, 2) := by decide +kernel
theorem dX12_usual_123 : decode cX12_usual 123 = .ok (.iadd, 1) := by decide +kernel
theorem dX12_usual_124 : decode cX12_usual 124 = .ok (.iastore, 1) := by decide +kernel
theorem dX12_usual_125 : decode cX12_usual 125 = .ok (.iinc 2 1, 3) := by decide +kernel
theorem dX12_usual_128 : decode cX12_usual 128 = .ok (.goto (-105), 3) := by decide +kernel
theorem dX12_usual_131 : decode cX12_usual 131 = .ok (.aload_n 0, 1) := by decide +kernel
theorem dX12_usual_132 : decode cX12_usual 132 = .ok (.iconst 0, 1) := by decide +kernel
theorem dX12_usual_133 : decode cX12_usual 133 = .ok (.putfield 121, 3) := by decide +kernel
theorem dX12_usual_136 : decode cX12_usual 136 = .ok (.aload_n 0, 1) := by decide +kernel
theorem dX12_usual_137 : decode cX12_usual 137 = .ok (.bipush 15, 2) := by decide +kernel
theorem dX12_usual_139 : decode cX12_usual 139 = .ok (.putfield 124, 3) := by decide +kernel
theorem dX12_usual_142 : decode cX12_usual 142 = .ok (.aload_n 0, 1) := by decide +kernel
theorem dX12_usual_143 : decode cX12_usual 143 = .ok (.iconst (-1), 1) := by decide +kernel
theorem dX12_usual_144 : decode cX12_usual 144 = .ok (.putfield 127, 3) := by decide +kernel
theorem dX12_usual_147 : decode cX12_usual 147 = .ok (.aload_n 0, 1) := by decide +kernel
theorem dX12_usual_148 : decode cX12_usual 148 = .ok (.iconst 0, 1) := by decide +kernel
theorem dX12_usual_149 : decode cX12_usual 149 = .ok (.putfield 130, 3) := by decide +kernel
theorem dX12_usual_152 : decode cX12_usual 152 = .ok (.aload_n 0, 1) := by decide +kernel
theorem dX12_usual_153 : decode cX12_usual 153 = .ok (.iconst 1, 1) := by decide +kernel
theorem dX12_usual_154 : decode cX12_usual 154 = .ok (.putfield 133, 3) := by decide +kernel
theorem dX12_usual_157 : decode cX12_usual 157 = .ok (.aload_n 0, 1) := by decide +kernel
theorem dX12_usual_158 : decode cX12_usual 158 = .ok (.iload_n 1, 1) := by decide +kernel
theorem dX12_usual_159 : decode cX12_usual 159 = .ok (.invokevirtual 182, 3) := by decide +kernel
theorem dX12_usual_162 : decode cX12_usual 162 = .ok (.return_, 1) := by decide +kernel
theorem dX12_start_0 : decode cX12_start 0 = .ok (.iconst 0, 1) := by decide +kernel
theorem dX12_start_1 : decode cX12_start 1 = .ok (.istore_n 2, 1) := by decide +kernel
theorem dX12_start_2 : decode cX12_start 2 = .ok (.iload_n 2, 1) := by decide +kernel
theorem dX12_start_3 : decode cX12_start 3 = .ok (.bipush 64, 2) := by decide +kernel
theorem dX12_start_5 : decode cX12_start 5 = .ok (.if_icmp .ge 26, 3) := by decide +kernel
theorem dX12_start_8 : decode cX12_start 8 = .ok (.aload_n 0, 1) := by decide +kernel
theorem dX12_start_9 : decode cX12_start 9 = .ok (.getfield 46, 3) := by decide +kernel
theorem dX12_start_12 : decode cX12_start 12 = .ok (.bipush 64, 2) := by decide +kernel
theorem dX12_start_14 : decode cX12_start 14 = .ok (.iload_n 1, 1) := by decide +kernel
theorem dX12_start_15 : decode cX12_start 15 = .ok (.imul, 1) := by decide +kernel
theorem dX12_start_16 : decode cX12_start 16 = .ok (.iload_n 2, 1) := by decide +kernel
theorem dX12_start_17 : decode cX12_start 17 = .ok (.iadd, 1) := by decide +kernel
theorem dX12_start_18 : decode cX12_start 18 = .ok (.aload_n 0, 1) := by decide +kernel
theorem dX12_start_19 : decode cX12_start 19 = .ok (.getfield 70, 3) := by decide +kernel
theorem dX12_start_22 : decode cX12_start 22 = .ok (.iload_n 2, 1) := by decide +kernel
theorem dX12_start_23 : decode cX12_start 23 = .ok (.iaload, 1) := by decide +kernel
theorem dX12_start_24 : decode cX12_start 24 = .ok (.iastore, 1) := by decide +kernel
theorem dX12_start_25 : decode cX12_start 25 = .ok (.iinc 2 1, 3) := by decide +kernel
theorem dX12_start_28 : decode cX12_start 28 = .ok (.goto (-26), 3) := by decide +kernel
theorem dX12_start_31 : decode cX12_start 31 = .ok (.aload_n 0, 1) := by decide +kernel
theorem dX12_start_32 : decode cX12_start 32 = .ok (.getfield 49, 3) := by decide +kernel
theorem dX12_start_35 : decode cX12_start 35 = .ok (.iconst 5, 1) := by decide +kernel
theorem dX12_start_36 : decode cX12_start 36 = .ok (.iload_n 1, 1) := by decide +kernel
theorem dX12_start_37 : decode cX12_start 37 = .ok (.imul, 1) := by decide +kernel
theorem dX12_start_38 : decode cX12_start 38 = .ok (.aload_n 0, 1) := by decide +kernel
theorem dX12_start_39 : decode cX12_start 39 = .ok (.getfield 121, 3) := by decide +kernel
theorem dX12_start_42 : decode cX12_start 42 = .ok (.iastore, 1) := by decide +kernel
theorem dX12_start_43 : decode cX12_start 43 = .ok (.aload_n 0, 1) := by decide +kernel
theorem dX12_start_44 : decode cX12_start 44 = .ok (.getfield 49, 3) := by decide +kernel
theorem dX12_start_47 : decode cX12_start 47 = .ok (.iconst 5, 1) := by decide +kernel
theorem dX12_start_48 : decode cX12_start 48 = .ok (.iload_n 1, 1) := by decide +kernel
theorem dX12_start_49 : decode cX12_start 49 = .ok (.imul, 1) := by decide +kernel
theorem dX12_start_50 : decode cX12_start 50 = .ok (.iconst 1, 1) := by decide +kernel
theorem dX12_start_51 : decode cX12_start 51 = .ok (.iadd, 1) := by decide +kernel
theorem dX12_start_52 : decode cX12_start 52 = .ok (.aload_n 0, 1) := by decide +kernel
theorem dX12_start_53 : decode cX12_start 53 = .ok (.getfield 124, 3) := by decide +kernel
theorem dX12_start_56 : decode cX12_start 56 = .ok (.iastore, 1) := by decide +kernel
theorem dX12_start_57 : decode cX12_start 57 = .ok (.aload_n 0, 1) := by decide +kernel
theorem dX12_start_58 : decode cX12_start 58 = .ok (.getfield 49, 3) := by decide +kernel
theorem dX12_start_61 : decode cX12_start 61 = .ok (.iconst 5, 1) := by decide +kernel
theorem dX12_start_62 : decode cX12_start 62 = .ok (.iload_n 1, 1) := by decide +kernel
theorem dX12_start_63 : decode cX12_start 63 = .ok (.imul, 1) := by decide +kernel
theorem dX12_start_64 : decode cX12_start 64 = .ok (.iconst 2, 1) := by decide +kernel
theorem dX12_start_65 : decode cX12_start 65 = .ok (.iadd, 1) := by decide +kernel
theorem dX12_start_66 : decode cX12_start 66 = .ok (.aload_n 0, 1) := by decide +kernel
theorem dX12_start_67 : decode cX12_start 67 = .ok (.getfield 127, 3) := by decide +kernel
theorem dX12_start_70 : decode cX12_start 70 = .ok (.iastore, 1) := by decide +kernel
theorem dX12_start_71 : decode cX12_start 71 = .ok (.aload_n 0, 1) := by decide +kernel
theorem dX12_start_72 : decode cX12_start 72 = .ok (.getfield 49, 3) := by decide +kernel
theorem dX12_start_75 : decode cX12_start 75 = .ok (.iconst 5, 1) := by decide +kernel
theorem dX12_start_76 : decode cX12_start 76 = .ok (.iload_n 1, 1) := by decide +kernel
theorem dX12_start_77 : decode cX12_start 77 = .ok (.imul, 1) := by decide +kernel
theorem dX12_start_78 : decode cX12_start 78 = .ok (.iconst 3, 1) := by decide +kernel
theorem dX12_start_79 : decode cX12_start 79 = .ok (.iadd, 1) := by decide +kernel
theorem dX12_start_80 : decode cX12_start 80 = .ok (.aload_n 0, 1) := by decide +kernel
theorem dX12_start_81 : decode cX12_start 81 = .ok (.getfield 130, 3) := by decide +kernel
theorem dX12_start_84 : decode cX12_start 84 = .ok (.iastore, 1) := by decide +kernel
theorem dX12_start_85 : decode cX12_start 85 = .ok (.aload_n 0, 1) := by decide +kernel
theorem dX12_start_86 : decode cX12_start 86 = .ok (.getfield 49, 3) := by decide +kernel
theorem dX12_start_89 : decode cX12_start 89 = .ok (.iconst 5, 1) := by decide +kernel
theorem dX12_start_90 : decode cX12_start 90 = .ok (.iload_n 1, 1) := by decide +kernel
theorem dX12_start_91 : decode cX12_start 91 = .ok (.imul, 1) := by decide +kernel
theorem dX12_start_92 : decode cX12_start 92 = .ok (.iconst 4, 1) := by decide +kernel
theorem dX12_start_93 : decode cX12_start 93 = .ok (.iadd, 1) := by decide +kernel
theorem dX12_start_94 : decode cX12_start 94 = .ok (.aload_n 0, 1) := by decide +kernel
theorem dX12_start_95 : decode cX12_start 95 = .ok (.getfield 133, 3) := by decide +kernel
theorem dX12_start_98 : decode cX12_start 98 = .ok (.iastore, 1) := by decide +kernel
theorem dX12_start_99 : decode cX12_start 99 = .ok (.return_, 1) := by decide +kernel
theorem dX12_place_0 : decode cX12_place 0 = .ok (.iconst 0, 1) := by decide +kernel
theorem dX12_place_1 : decode cX12_place 1 = .ok (.istore_n 3, 1) := by decide +kernel
theorem dX12_place_2 : decode cX12_place 2 = .ok (.iload_n 2, 1) := by decide +kernel
theorem dX12_place_3 : decode cX12_place 3 = .ok (.istore 4, 2) := by decide +kernel
theorem dX12_place_5 : decode cX12_place 5 = .ok (.iload 4, 2) := by decide +kernel
theorem dX12_place_7 : decode cX12_place 7 = .ok (.ifCond .le 32, 3) := by decide +kernel
theorem dX12_place_10 : decode cX12_place 10 = .ok (.aload_n 0, 1) := by decide +kernel
theorem dX12_place_11 : decode cX12_place 11 = .ok (.getfield 82, 3) := by decide +kernel
theorem dX12_place_14 : decode cX12_place 14 = .ok (.iload_n 3, 1) := by decide +kernel
theorem dX12_place_15 : decode cX12_place 15 = .ok (.iload 4, 2) := by decide +kernel
theorem dX12_place_17 : decode cX12_place 17 = .ok (.iastore, 1) := by decide +kernel
theorem dX12_place_18 : decode cX12_place 18 = .ok (.iinc 3 1, 3) := by decide +kernel
theorem dX12_place_21 : decode cX12_place 21 = .ok (.aload_n 0, 1) := by decide +kernel
theorem dX12_place_22 : decode cX12_place 22 = .ok (.getfield 21, 3) := by decide +kernel
theorem dX12_place_25 : decode cX12_place 25 = .ok (.sipush 301, 3) := by decide +kernel
theorem dX12_place_28 : decode cX12_place 28 = .ok (.iload_n 1, 1) := by decide +kernel
theorem dX12_place_29 : decode cX12_place 29 = .ok (.imul, 1) := by decide +kernel
theorem dX12_place_30 : decode cX12_place 30 = .ok (.iload 4, 2) := by decide +kernel
theorem dX12_place_32 : decode cX12_place 32 = .ok (.iadd, 1) := by decide +kernel
theorem dX12_place_33 : decode cX12_place 33 = .ok (.iaload, 1) := by decide +kernel
theorem dX12_place_34 : decode cX12_place 34 = .ok (.istore 4, 2) := by decide +kernel
theorem dX12_place_36 : decode cX12_place 36 = .ok (.goto (-31), 3) := by decide +kernel
theorem dX12_place_39 : decode cX12_place 39 = .ok (.iconst 0, 1) := by decide +kernel
theorem dX12_place_40 : decode cX12_place 40 = .ok (.istore 4, 2) := by decide +kernel
theorem dX12_place_42 : decode cX12_place 42 = .ok (.iload 4, 2) := by decide +kernel
theorem dX12_place_44 : decode cX12_place 44 = .ok (.bipush 64, 2) := by decide +kernel
theorem dX12_place_46 : decode cX12_place 46 = .ok (.if_icmp .ge 28, 3) := by decide +kernel
theorem dX12_place_49 : decode cX12_place 49 = .ok (.aload_n 0, 1) := by decide +kernel
theorem dX12_place_50 : decode cX12_place 50 = .ok (.getfield 70, 3) := by decide +kernel
theorem dX12_place_53 : decode cX12_place 53 = .ok (.iload 4, 2) := by decide +kernel
theorem dX12_place_55 : decode cX12_place 55 = .ok (.aload_n 0, 1) := by decide +kernel
theorem dX12_place_56 : decode cX12_place 56 = .ok (.getfield 46, 3) := by decide +kernel
theorem dX12_place_59 : decode cX12_place 59 = .ok (.bipush 64, 2) := by decide +kernel
theorem dX12_place_61 : decode cX12_place 61 = .ok (.iload_n 1, 1) := by decide +kernel
theorem dX12_place_62 : decode cX12_place 62 = .ok (.imul, 1) := by decide +kernel
theorem dX12_place_63 : decode cX12_place 63 = .ok (.iload 4, 2) := by decide +kernel
theorem dX12_place_65 : decode cX12_place 65 = .ok (.iadd, 1) := by decide +kernel
theorem dX12_place_66 : decode cX12_place 66 = .ok (.iaload, 1) := by decide +kernel
theorem dX12_place_67 : decode cX12_place 67 = .ok (.iastore, 1) := by decide +kernel
theorem dX12_place_68 : decode cX12_place 68 = .ok (.iinc 4 1, 3) := by decide +kernel
theorem dX12_place_71 : decode cX12_place 71 = .ok (.goto (-29), 3) := by decide +kernel
theorem dX12_place_74 : decode cX12_place 74 = .ok (.aload_n 0, 1) := by decide +kernel
theorem dX12_place_75 : decode cX12_place 75 = .ok (.aload_n 0, 1) := by decide +kernel
theorem dX12_place_76 : decode cX12_place 76 = .ok (.getfield 49, 3) := by decide +kernel
theorem dX12_place_79 : decode cX12_place 79 = .ok (.iconst 5, 1) := by decide +kernel
theorem dX12_place_80 : decode cX12_place 80 = .ok (.iload_n 1, 1) := by decide +kernel
theorem dX12_place_81 : decode cX12_place 81 = .ok (.imul, 1) := by decide +kernel
theorem dX12_place_82 : decode cX12_place 82 = .ok (.iaload, 1) := by decide +kernel
theorem dX12_place_83 : decode cX12_place 83 = .ok (.putfield 121, 3) := by decide +kernel
theorem dX12_place_86 : decode cX12_place 86 = .ok (.aload_n 0, 1) := by decide +kernel
theorem dX12_place_87 : decode cX12_place 87 = .ok (.aload_n 0, 1) := by decide +kernel
theorem dX12_place_88 : decode cX12_place 88 = .ok (.getfield 49, 3) := by decide +kernel
theorem dX12_place_91 : decode cX12_place 91 = .ok (.iconst 5, 1) := by decide +kernel
theorem dX12_place_92 : decode cX12_place 92 = .ok (.iload_n 1, 1) := by decide +kernel
theorem dX12_place_93 : decode cX12_place 93 = .ok (.imul, 1) := by decide +kernel
theorem dX12_place_94 : decode cX12_place 94 = .ok (.iconst 1, 1) := by decide +kernel
theorem dX12_place_95 : decode cX12_place 95 = .ok (.iadd, 1) := by decide +kernel
theorem dX12_place_96 : decode cX12_place 96 = .ok (.iaload, 1) := by decide +kernel
theorem dX12_place_97 : decode cX12_place 97 = .ok (.putfield 124, 3) := by decide +kernel
theorem dX12_place_100 : decode cX12_place 100 = .ok (.aload_n 0, 1) := by decide +kernel
theorem dX12_place_101 : decode cX12_place 101 = .ok (.aload_n 0, 1) := by decide +kernel
theorem dX12_place_102 : decode cX12_place 102 = .ok (.getfield 49, 3) := by decide +kernel
theorem dX12_place_105 : decode cX12_place 105 = .ok (.iconst 5, 1) := by decide +kernel
theorem dX12_place_106 : decode cX12_place 106 = .ok (.iload_n 1, 1) := by decide +kernel
theorem dX12_place_107 : decode cX12_place 107 = .ok (.imul, 1) := by decide +kernel
theorem dX12_place_108 : decode cX12_place 108 = .ok (.iconst 2, 1) := by decide +kernel
theorem dX12_place_109 : decode cX12_place 109 = .ok (.iadd, 1) := by decide +kernel
theorem dX12_place_110 : decode cX12_place 110 = .ok (.iaload, 1) := by decide +kernel
end
