set_option maxRecDepth 20000 in
theorem ggX12_spellWhole_X12_spell : GoodIn wsX12_spellWhole wsX12_spell := goodIn_r2 cbX12_spellWhole_f _ [(2, 3), (2, 4), (1, 19), (6, 0), (6, 1), (6, 2), (6, 3), (6, 4), (6, 5), (6, 6), (6, 7), (6, 8), (6, 9), (6, 10), (6, 11), (6, 12), (6, 13), (6, 14), (6, 15), (6, 16), (6, 17), (6, 18), (6, 19), (6, 20), (6, 21), (6, 22), (6, 23), (6, 24), (6, 25), (6, 26), (6, 27), (6, 28), (6, 29), (6, 30), (6, 31), (6, 32), (6, 33), (6, 34), (6, 35), (6, 36), (6, 37), (6, 38), (6, 39)] rfl (by decide +kernel)
set_option maxRecDepth 20000 in
theorem gX12_spellWhole_X12_spell : GoodIn wsX12_spellWhole (wsV RX12 194 RX12 yX12_spell wsX12_spell) := goodIn_app (goodIn_of _ (by decide +kernel)) ggX12_spellWhole_X12_spell
set_option maxRecDepth 20000 in
theorem ggX12_fits_X12_kind : GoodIn wsX12_fits wsX12_kind := goodIn_r _ [6] rfl (by decide +kernel)
set_option maxRecDepth 20000 in
theorem gX12_fits_X12_kind : GoodIn wsX12_fits (va_wsS RX12 136 yX12_kind wsX12_kind) := goodIn_app (goodIn_of _ (by decide +kernel)) ggX12_fits_X12_kind
set_option maxRecDepth 20000 in
theorem ggX12_fits_X12_isTaking : GoodIn wsX12_fits wsX12_isTaking := goodIn_r2 cbX12_fits_f _ [(1, 9), (1, 0), (1, 2), (1, 3), (1, 4), (1, 5), (6, 0), (6, 1), (6, 2), (6, 3), (6, 4), (6, 5), (6, 6), (6, 7), (6, 8), (6, 9), (6, 10), (6, 11), (6, 12), (6, 13), (6, 14), (6, 15), (6, 16), (6, 17), (6, 18), (6, 19), (6, 20), (6, 21), (6, 22), (6, 23), (6, 24), (6, 25), (6, 26), (6, 27), (6, 28), (6, 29), (6, 30), (6, 31), (6, 32), (6, 33), (6, 34), (6, 35), (6, 36), (6, 37), (6, 38), (6, 39)] rfl (by decide +kernel)
set_option maxRecDepth 20000 in
theorem gX12_fits_X12_isTaking : GoodIn wsX12_fits (wsV RX12 139 RX12 yX12_isTaking wsX12_isTaking) := goodIn_app (goodIn_of _ (by decide +kernel)) ggX12_fits_X12_isTaking
set_option maxRecDepth 20000 in
theorem ggX12_fits_X12_isCastling : GoodIn wsX12_fits wsX12_isCastling := goodIn_r2 cbX12_fits_f _ [(1, 13), (1, 0), (1, 2), (1, 3), (1, 4), (1, 5), (6, 0), (6, 1), (6, 2), (6, 3), (6, 4), (6, 5), (6, 6), (6, 7), (6, 8), (6, 9), (6, 10), (6, 11), (6, 12), (6, 13), (6, 14), (6, 15), (6, 16), (6, 17), (6, 18), (6, 19), (6, 20), (6, 21), (6, 22), (6, 23), (6, 24), (6, 25), (6, 26), (6, 27), (6, 28), (6, 29), (6, 30), (6, 31), (6, 32), (6, 33), (6, 34), (6, 35), (6, 36), (6, 37), (6, 38), (6, 39)] rfl (by decide +kernel)
set_option maxRecDepth 20000 in
theorem gX12_fits_X12_isCastling : GoodIn wsX12_fits (wsV RX12 198 RX12 yX12_isCastling wsX12_isCastling) := goodIn_app (goodIn_of _ (by decide +kernel)) ggX12_fits_X12_isCastling
set_option maxRecDepth 20000 in
theorem ggX12_fits_X12_spellMove : GoodIn wsX12_fits wsX12_spellMove := goodIn_r2 cbX12_fits_f _ [(1, 17), (1, 18), (1, 0), (1, 10), (1, 11), (1, 12), (1, 4), (1, 13), (1, 2), (1, 3), (1, 5), (1, 19), (1, 20), (1, 21), (1, 22), (1, 23), (2, 0), (2, 1), (2, 2), (2, 3), (2, 4), (2, 5), (2, 6), (6, 0), (6, 1), (6, 2), (6, 3), (6, 4), (6, 5), (6, 6), (6, 7), (6, 8), (6, 9), (6, 10), (6, 11), (6, 12), (6, 13), (6, 14), (6, 15), (6, 16), (6, 17), (6, 18), (6, 19), (6, 20), (6, 21), (6, 22), (6, 23), (6, 24), (6, 25), (6, 26), (6, 27), (6, 28), (6, 29), (6, 30), (6, 31), (6, 32), (6, 33), (6, 34), (6, 35), (6, 36), (6, 37), (6, 38), (6, 39)] rfl (by decide +kernel)
set_option maxRecDepth 20000 in
theorem gX12_fits_X12_spellMove : GoodIn wsX12_fits (wsV RX12 214 RX12 yX12_spellMove wsX12_spellMove) := goodIn_app (goodIn_of _ (by decide +kernel)) ggX12_fits_X12_spellMove
set_option maxRecDepth 20000 in
theorem ggX12_fits_X12_isSpelled : GoodIn wsX12_fits wsX12_isSpelled := goodIn_r2 cbX12_fits_f _ [(2, 10), (1, 1), (1, 18), (1, 23), (6, 0), (6, 1), (6, 2), (6, 3), (6, 4), (6, 5), (6, 6), (6, 7), (6, 8), (6, 9), (6, 10), (6, 11), (6, 12), (6, 13), (6, 14), (6, 15), (6, 16), (6, 17), (6, 18), (6, 19), (6, 20), (6, 21), (6, 22), (6, 23), (6, 24), (6, 25), (6, 26), (6, 27), (6, 28), (6, 29), (6, 30), (6, 31), (6, 32), (6, 33), (6, 34), (6, 35), (6, 36), (6, 37), (6, 38), (6, 39)] rfl (by decide +kernel)
set_option maxRecDepth 20000 in
theorem gX12_fits_X12_isSpelled : GoodIn wsX12_fits (wsV RX12 221 RX12 yX12_isSpelled wsX12_isSpelled) := goodIn_app (goodIn_of _ (by decide +kernel)) ggX12_fits_X12_isSpelled
set_option maxRecDepth 20000 in
theorem ggX12_fits_X12_behind : GoodIn wsX12_fits wsX12_behind := goodIn_r2 cbX12_fits_f _ [(2, 14), (2, 15), (2, 16), (2, 17), (2, 18), (1, 4), (2, 19), (2, 20), (1, 0), (2, 21), (2, 22), (2, 23), (3, 0), (3, 1), (3, 2), (3, 3), (3, 4), (3, 5), (1, 2), (1, 3), (1, 5), (1, 6), (1, 7), (1, 8), (1, 9), (3, 6), (3, 7), (3, 8), (3, 9), (3, 10), (3, 11), (3, 12), (3, 13), (3, 14), (3, 15), (3, 16), (3, 17), (3, 18), (3, 19), (3, 20), (3, 21), (3, 22), (3, 23), (4, 0), (4, 1), (4, 2), (4, 3), (4, 4), (4, 5), (4, 6), (4, 7), (4, 8), (4, 9), (4, 10), (4, 11), (4, 12), (4, 13), (4, 14), (4, 15), (4, 16), (4, 17), (4, 18), (4, 19), (4, 20), (4, 21), (4, 22), (4, 23), (5, 0), (5, 1), (5, 2), (5, 3), (5, 4), (5, 5), (5, 6), (5, 7), (5, 8), (5, 9), (5, 10), (5, 11), (6, 0), (6, 1), (6, 2), (6, 3), (6, 4), (6, 5), (6, 6), (6, 7), (6, 8), (6, 9), (6, 10), (6, 11), (6, 12), (6, 13), (6, 14), (6, 15), (6, 16), (6, 17), (6, 18), (6, 19), (6, 20), (6, 21), (6, 22), (6, 23), (6, 24), (6, 25), (6, 26), (6, 27), (6, 28), (6, 29), (6, 30), (6, 31), (6, 32), (6, 33), (6, 34), (6, 35), (6, 36), (6, 37), (6, 38), (6, 39)] rfl (by decide +kernel)
set_option maxRecDepth 20000 in
theorem gX12_fits_X12_behind : GoodIn wsX12_fits (wsV RX12 218 RX12 yX12_behind wsX12_behind) := goodIn_app (goodIn_of _ (by decide +kernel)) ggX12_fits_X12_behind
set_option maxRecDepth 20000 in
theorem ggX12_understood_X12_fits : GoodIn wsX12_understood wsX12_fits := goodIn_r2 cbX12_understood_f _ [(1, 6), (1, 7), (1, 8), (1, 9), (1, 10), (1, 5), (1, 11), (1, 12), (1, 13), (1, 14), (1, 15), (1, 16), (1, 17), (1, 18), (1, 19), (1, 20), (1, 21), (1, 22), (1, 23), (2, 0), (2, 1), (2, 2), (2, 3), (2, 4), (2, 5), (2, 6), (2, 7), (2, 8), (2, 9), (2, 10), (2, 11), (2, 12), (2, 13), (2, 14), (2, 15), (2, 16), (2, 17), (2, 18), (2, 19), (2, 20), (2, 21), (2, 22), (2, 23), (3, 0), (3, 1), (3, 2), (3, 3), (3, 4), (3, 5), (3, 6), (3, 7), (3, 8), (3, 9), (3, 10), (3, 11), (3, 12), (3, 13), (3, 14), (3, 15), (3, 16), (3, 17), (3, 18), (3, 19), (3, 20), (3, 21), (3, 22), (3, 23), (4, 0), (4, 1), (4, 2), (4, 3), (4, 4), (4, 5), (4, 6), (4, 7), (4, 8), (4, 9), (4, 10), (4, 11), (4, 12), (4, 13), (4, 14), (4, 15), (4, 16), (4, 17), (4, 18), (4, 19), (4, 20), (4, 21), (4, 22), (4, 23), (5, 0), (5, 1), (5, 2), (5, 3), (5, 4), (5, 5), (5, 6), (5, 7), (5, 8), (5, 9), (5, 10), (5, 11), (5, 12), (5, 13), (5, 14), (5, 15), (5, 16), (5, 17), (6, 0), (6, 1), (6, 2), (6, 3), (6, 4), (6, 5), (6, 6), (6, 7), (6, 8), (6, 9), (6, 10), (6, 11), (6, 12), (6, 13), (6, 14), (6, 15), (6, 16), (6, 17), (6, 18), (6, 19), (6, 20), (6, 21), (6, 22), (6, 23), (6, 24), (6, 25), (6, 26), (6, 27), (6, 28), (6, 29), (6, 30), (6, 31), (6, 32), (6, 33), (6, 34), (6, 35), (6, 36), (6, 37), (6, 38), (6, 39)] rfl (by decide +kernel)
set_option maxRecDepth 20000 in
theorem gX12_understood_X12_fits : GoodIn wsX12_understood (wsV RX12 225 RX12 yX12_fits wsX12_fits) := goodIn_app (goodIn_of _ (by decide +kernel)) ggX12_understood_X12_fits
set_option maxRecDepth 20000 in
theorem ggX12_pass_X12_sign : GoodIn wsX12_pass wsX12_sign := goodIn_r _ [6, 1, 7, 8, 9, 10, 11, 12, 13, 14, 15, 16, 17, 18, 19, 20, 21, 22, 23, 24, 25, 26, 27, 28, 29, 30, 31, 32, 33, 34, 35, 36, 37, 38, 39, 40, 41, 42, 43, 44, 45, 46, 47, 48] rfl (by decide +kernel)
set_option maxRecDepth 20000 in
theorem gX12_pass_X12_sign : GoodIn wsX12_pass (wsV RX12 235 RX12 yX12_sign wsX12_sign) := goodIn_app (goodIn_of _ (by decide +kernel)) ggX12_pass_X12_sign
set_option maxRecDepth 20000 in
theorem ggX12_manOf_X12_manOf : GoodIn wsX12_manOf wsX12_manOf := goodIn_r _ [0, 1, 2, 3] rfl (by decide +kernel)
set_option maxRecDepth 20000 in
theorem gX12_manOf_X12_manOf : GoodIn wsX12_manOf (va_wsS RX12 239 yX12_manOf wsX12_manOf) := goodIn_app (goodIn_of _ (by decide +kernel)) ggX12_manOf_X12_manOf
set_option maxRecDepth 20000 in
theorem ggX12_readRank_X12_sign : GoodIn wsX12_readRank wsX12_sign := goodIn_r _ [7, 2, 8, 9, 13, 14, 15, 16, 17, 18, 19, 20, 21, 22, 23, 24, 25, 26, 27, 28, 29, 30, 31, 32, 33, 34, 35, 36, 37, 38, 39, 40, 41, 42, 43, 44, 45, 46, 47, 48, 49, 50, 51, 52] rfl (by decide +kernel)
set_option maxRecDepth 20000 in
theorem gX12_readRank_X12_sign : GoodIn wsX12_readRank (wsV RX12 235 RX12 yX12_sign wsX12_sign) := goodIn_app (goodIn_of _ (by decide +kernel)) ggX12_readRank_X12_sign
set_option maxRecDepth 20000 in
theorem ggX12_readRank_X12_manOf : GoodIn wsX12_readRank wsX12_manOf := goodIn_r _ [12, 10, 11, 6] rfl (by decide +kernel)
set_option maxRecDepth 20000 in
theorem gX12_readRank_X12_manOf : GoodIn wsX12_readRank (va_wsS RX12 239 yX12_manOf wsX12_manOf) := goodIn_app (goodIn_of _ (by decide +kernel)) ggX12_readRank_X12_manOf
set_option maxRecDepth 20000 in
theorem ggX12_readNumber_X12_sign : GoodIn wsX12_readNumber wsX12_sign := goodIn_r _ [6, 1, 7, 8, 9, 10, 11, 12, 13, 14, 15, 16, 17, 18, 19, 20, 21, 22, 23, 24, 25, 26, 27, 28, 29, 30, 31, 32, 33, 34, 35, 36, 37, 38, 39, 40, 41, 42, 43, 44, 45, 46, 47, 48] rfl (by decide +kernel)
set_option maxRecDepth 20000 in
theorem gX12_readNumber_X12_sign : GoodIn wsX12_readNumber (wsV RX12 235 RX12 yX12_sign wsX12_sign) := goodIn_app (goodIn_of _ (by decide +kernel)) ggX12_readNumber_X12_sign
set_option maxRecDepth 20000 in
theorem ggX12_readRights_X12_sign : GoodIn wsX12_readRights wsX12_sign := goodIn_r _ [7, 2, 8, 9, 14, 15, 16, 17, 18, 19, 20, 21, 22, 23, 24, 25, 26, 27, 28, 29, 30, 31, 32, 33, 34, 35, 36, 37, 38, 39, 40, 41, 42, 43, 44, 45, 46, 47, 48, 49, 50, 51, 52, 53] rfl (by decide +kernel)
set_option maxRecDepth 20000 in
theorem gX12_readRights_X12_sign : GoodIn wsX12_readRights (wsV RX12 235 RX12 yX12_sign wsX12_sign) := goodIn_app (goodIn_of _ (by decide +kernel)) ggX12_readRights_X12_sign
set_option maxRecDepth 20000 in
theorem ggX12_readRights_X12_pass : GoodIn wsX12_readRights wsX12_pass := goodIn_r _ [13, 2, 3, 4, 5, 6, 7, 8, 9, 14, 15, 16, 17, 18, 19, 20, 21, 22, 23, 24, 25, 26, 27, 28, 29, 30, 31, 32, 33, 34, 35, 36, 37, 38, 39, 40, 41, 42, 43, 44, 45, 46, 47, 48, 49, 50, 51, 52, 53] rfl (by decide +kernel)
set_option maxRecDepth 20000 in
theorem gX12_readRights_X12_pass : GoodIn wsX12_readRights (wsV RX12 243 RX12 yX12_pass wsX12_pass) := goodIn_app (goodIn_of _ (by decide +kernel)) ggX12_readRights_X12_pass
set_option maxRecDepth 20000 in
theorem ggX12_readPassed_X12_sign : GoodIn wsX12_readPassed wsX12_sign := goodIn_r _ [7, 2, 8, 9, 14, 15, 16, 17, 18, 19, 20, 21, 22, 23, 24, 25, 26, 27, 28, 29, 30, 31, 32, 33, 34, 35, 36, 37, 38, 39, 40, 41, 42, 43, 44, 45, 46, 47, 48, 49, 50, 51, 52, 53] rfl (by decide +kernel)
set_option maxRecDepth 20000 in
theorem gX12_readPassed_X12_sign : GoodIn wsX12_readPassed (wsV RX12 235 RX12 yX12_sign wsX12_sign) := goodIn_app (goodIn_of _ (by decide +kernel)) ggX12_readPassed_X12_sign
set_option maxRecDepth 20000 in
theorem ggX12_readPassed_X12_pass : GoodIn wsX12_readPassed wsX12_pass := goodIn_r _ [13, 2, 3, 4, 5, 6, 7, 8, 9, 14, 15, 16, 17, 18, 19, 20, 21, 22, 23, 24, 25, 26, 27, 28, 29, 30, 31, 32, 33, 34, 35, 36, 37, 38, 39, 40, 41, 42, 43, 44, 45, 46, 47, 48, 49, 50, 51, 52, 53] rfl (by decide +kernel)
set_option maxRecDepth 20000 in
theorem gX12_readPassed_X12_pass : GoodIn wsX12_readPassed (wsV RX12 243 RX12 yX12_pass wsX12_pass) := goodIn_app (goodIn_of _ (by decide +kernel)) ggX12_readPassed_X12_pass
set_option maxRecDepth 20000 in
theorem ggX12_mayStand_X12_countOf : GoodIn wsX12_mayStand wsX12_countOf := goodIn_r2 cbX12_mayStand_f _ [(1, 8), (1, 0), (3, 0), (3, 1), (3, 2), (3, 3), (3, 4), (3, 5), (3, 6), (3, 7), (3, 8), (3, 9), (3, 10), (3, 11), (3, 12), (3, 13), (3, 14), (3, 15), (3, 16), (3, 17), (3, 18), (3, 19), (3, 20), (3, 21), (3, 22), (3, 23), (3, 24), (3, 25), (3, 26), (3, 27), (3, 28), (3, 29), (3, 30), (3, 31), (3, 32), (3, 33), (3, 34), (3, 35), (3, 36), (3, 37), (3, 38), (3, 39)] rfl (by decide +kernel)
set_option maxRecDepth 20000 in
theorem gX12_mayStand_X12_countOf : GoodIn wsX12_mayStand (wsV RX12 247 RX12 yX12_countOf wsX12_countOf) := goodIn_app (goodIn_of _ (by decide +kernel)) ggX12_mayStand_X12_countOf
set_option maxRecDepth 20000 in
theorem ggX12_mayStand_X12_kind : GoodIn wsX12_mayStand wsX12_kind := goodIn_r _ [12] rfl (by decide +kernel)
set_option maxRecDepth 20000 in
theorem gX12_mayStand_X12_kind : GoodIn wsX12_mayStand (va_wsS RX12 136 yX12_kind wsX12_kind) := goodIn_app (goodIn_of _ (by decide +kernel)) ggX12_mayStand_X12_kind
set_option maxRecDepth 20000 in
theorem ggX12_mayStand_X12_isInCheck : GoodIn wsX12_mayStand wsX12_isInCheck := goodIn_r2 cbX12_mayStand_f _ [(1, 15), (1, 16), (1, 17), (1, 18), (1, 7), (1, 19), (1, 0), (1, 20), (1, 21), (1, 22), (1, 23), (2, 0), (2, 1), (2, 2), (2, 3), (2, 4), (2, 5), (2, 6), (2, 7), (2, 8), (2, 9), (2, 10), (3, 0), (3, 1), (3, 2), (3, 3), (3, 4), (3, 5), (3, 6), (3, 7), (3, 8), (3, 9), (3, 10), (3, 11), (3, 12), (3, 13), (3, 14), (3, 15), (3, 16), (3, 17), (3, 18), (3, 19), (3, 20), (3, 21), (3, 22), (3, 23), (3, 24), (3, 25), (3, 26), (3, 27), (3, 28), (3, 29), (3, 30), (3, 31), (3, 32), (3, 33), (3, 34), (3, 35), (3, 36), (3, 37), (3, 38), (3, 39)] rfl (by decide +kernel)
set_option maxRecDepth 20000 in
theorem gX12_mayStand_X12_isInCheck : GoodIn wsX12_mayStand (wsV RX12 152 RX12 yX12_isInCheck wsX12_isInCheck) := goodIn_app (goodIn_of _ (by decide +kernel)) ggX12_mayStand_X12_isInCheck
set_option maxRecDepth 20000 in
theorem ggX12_mayStand_X12_step : GoodIn wsX12_mayStand wsX12_step := goodIn_r _ [27] rfl (by decide +kernel)
set_option maxRecDepth 20000 in
theorem gX12_mayStand_X12_step : GoodIn wsX12_mayStand (va_wsS RX12 103 yX12_step wsX12_step) := goodIn_app (goodIn_of _ (by decide +kernel)) ggX12_mayStand_X12_step
set_option maxRecDepth 20000 in
theorem ggX12_mayStand_X12_stands : GoodIn wsX12_mayStand wsX12_stands := goodIn_r2 cbX12_mayStand_f _ [(2, 6), (1, 0), (3, 0), (3, 1), (3, 2), (3, 3), (3, 4), (3, 5), (3, 6), (3, 7), (3, 8), (3, 9), (3, 10), (3, 11), (3, 12), (3, 13), (3, 14), (3, 15), (3, 16), (3, 17), (3, 18), (3, 19), (3, 20), (3, 21), (3, 22), (3, 23), (3, 24), (3, 25), (3, 26), (3, 27), (3, 28), (3, 29), (3, 30), (3, 31), (3, 32), (3, 33), (3, 34), (3, 35), (3, 36), (3, 37), (3, 38), (3, 39)] rfl (by decide +kernel)
set_option maxRecDepth 20000 in
theorem gX12_mayStand_X12_stands : GoodIn wsX12_mayStand (wsV RX12 107 RX12 yX12_stands wsX12_stands) := goodIn_app (goodIn_of _ (by decide +kernel)) ggX12_mayStand_X12_stands
set_option maxRecDepth 20000 in
theorem ggX12_readPosition_X12_readRank : GoodIn wsX12_readPosition wsX12_readRank := goodIn_r2 cbX12_readPosition_f _ [(1, 10), (1, 2), (1, 0), (1, 11), (1, 12), (1, 13), (1, 9), (1, 14), (1, 1), (1, 15), (1, 16), (1, 17), (1, 18), (4, 0), (4, 1), (4, 2), (4, 3), (4, 4), (4, 5), (4, 6), (4, 7), (4, 8), (4, 9), (4, 10), (4, 11), (4, 12), (4, 13), (4, 14), (4, 15), (4, 16), (4, 17), (4, 18), (4, 19), (4, 20), (4, 21), (4, 22), (4, 23), (4, 24), (4, 25), (4, 26), (4, 27), (4, 28), (4, 29), (4, 30), (4, 31), (4, 32), (4, 33), (4, 34), (4, 35), (4, 36), (4, 37), (4, 38), (4, 39)] rfl (by decide +kernel)
set_option maxRecDepth 20000 in
theorem gX12_readPosition_X12_readRank : GoodIn wsX12_readPosition (wsV RX12 250 RX12 yX12_readRank wsX12_readRank) := goodIn_app (goodIn_of _ (by decide +kernel)) ggX12_readPosition_X12_readRank
set_option maxRecDepth 20000 in
theorem ggX12_readPosition_X12_pass : GoodIn wsX12_readPosition wsX12_pass := goodIn_r2 cbX12_readPosition_f _ [(1, 22), (1, 0), (1, 11), (1, 12), (1, 13), (1, 9), (1, 14), (1, 1), (1, 15), (4, 0), (4, 1), (4, 2), (4, 3), (4, 4), (4, 5), (4, 6), (4, 7), (4, 8), (4, 9), (4, 10), (4, 11), (4, 12), (4, 13), (4, 14), (4, 15), (4, 16), (4, 17), (4, 18), (4, 19), (4, 20), (4, 21), (4, 22), (4, 23), (4, 24), (4, 25), (4, 26), (4, 27), (4, 28), (4, 29), (4, 30), (4, 31), (4, 32), (4, 33), (4, 34), (4, 35), (4, 36), (4, 37), (4, 38), (4, 39)] rfl (by decide +kernel)
set_option maxRecDepth 20000 in
theorem gX12_readPosition_X12_pass : GoodIn wsX12_readPosition (wsV RX12 243 RX12 yX12_pass wsX12_pass) := goodIn_app (goodIn_of _ (by decide +kernel)) ggX12_readPosition_X12_pass
set_option maxRecDepth 20000 in
theorem ggX12_readPosition_X12_sign : GoodIn wsX12_readPosition wsX12_sign := goodIn_r2 cbX12_readPosition_f _ [(1, 14), (1, 0), (1, 1), (1, 15), (4, 0), (4, 1), (4, 2), (4, 3), (4, 4), (4, 5), (4, 6), (4, 7), (4, 8), (4, 9), (4, 10), (4, 11), (4, 12), (4, 13), (4, 14), (4, 15), (4, 16), (4, 17), (4, 18), (4, 19), (4, 20), (4, 21), (4, 22), (4, 23), (4, 24), (4, 25), (4, 26), (4, 27), (4, 28), (4, 29), (4, 30), (4, 31), (4, 32), (4, 33), (4, 34), (4, 35), (4, 36), (4, 37), (4, 38), (4, 39)] rfl (by decide +kernel)
set_option maxRecDepth 20000 in
theorem gX12_readPosition_X12_sign : GoodIn wsX12_readPosition (wsV RX12 235 RX12 yX12_sign wsX12_sign) := goodIn_app (goodIn_of _ (by decide +kernel)) ggX12_readPosition_X12_sign
set_option maxRecDepth 20000 in
theorem ggX12_readPosition_X12_readRights : GoodIn wsX12_readPosition wsX12_readRights := goodIn_r2 cbX12_readPosition_f _ [(2, 2), (2, 3), (1, 0), (1, 11), (1, 12), (1, 13), (1, 9), (1, 14), (1, 1), (1, 15), (1, 19), (1, 20), (1, 21), (1, 22), (4, 0), (4, 1), (4, 2), (4, 3), (4, 4), (4, 5), (4, 6), (4, 7), (4, 8), (4, 9), (4, 10), (4, 11), (4, 12), (4, 13), (4, 14), (4, 15), (4, 16), (4, 17), (4, 18), (4, 19), (4, 20), (4, 21), (4, 22), (4, 23), (4, 24), (4, 25), (4, 26), (4, 27), (4, 28), (4, 29), (4, 30), (4, 31), (4, 32), (4, 33), (4, 34), (4, 35), (4, 36), (4, 37), (4, 38), (4, 39)] rfl (by decide +kernel)
set_option maxRecDepth 20000 in
theorem gX12_readPosition_X12_readRights : GoodIn wsX12_readPosition (wsV RX12 253 RX12 yX12_readRights wsX12_readRights) := goodIn_app (goodIn_of _ (by decide +kernel)) ggX12_readPosition_X12_readRights
set_option maxRecDepth 20000 in
theorem ggX12_readPosition_X12_readPassed : GoodIn wsX12_readPosition wsX12_readPassed := goodIn_r2 cbX12_readPosition_f _ [(2, 7), (2, 8), (1, 0), (1, 11), (1, 12), (1, 13), (1, 9), (1, 14), (1, 1), (1, 15), (1, 19), (1, 20), (1, 21), (1, 22), (4, 0), (4, 1), (4, 2), (4, 3), (4, 4), (4, 5), (4, 6), (4, 7), (4, 8), (4, 9), (4, 10), (4, 11), (4, 12), (4, 13), (4, 14), (4, 15), (4, 16), (4, 17), (4, 18), (4, 19), (4, 20), (4, 21), (4, 22), (4, 23), (4, 24), (4, 25), (4, 26), (4, 27), (4, 28), (4, 29), (4, 30), (4, 31), (4, 32), (4, 33), (4, 34), (4, 35), (4, 36), (4, 37), (4, 38), (4, 39)] rfl (by decide +kernel)
set_option maxRecDepth 20000 in
theorem gX12_readPosition_X12_readPassed : GoodIn wsX12_readPosition (wsV RX12 257 RX12 yX12_readPassed wsX12_readPassed) := goodIn_app (goodIn_of _ (by decide +kernel)) ggX12_readPosition_X12_readPassed
set_option maxRecDepth 20000 in
theorem ggX12_readPosition_X12_readNumber : GoodIn wsX12_readPosition wsX12_readNumber := goodIn_r2 cbX12_readPosition_f _ [(2, 12), (1, 0), (1, 11), (1, 12), (1, 13), (1, 9), (1, 14), (1, 1), (1, 15), (4, 0), (4, 1), (4, 2), (4, 3), (4, 4), (4, 5), (4, 6), (4, 7), (4, 8), (4, 9), (4, 10), (4, 11), (4, 12), (4, 13), (4, 14), (4, 15), (4, 16), (4, 17), (4, 18), (4, 19), (4, 20), (4, 21), (4, 22), (4, 23), (4, 24), (4, 25), (4, 26), (4, 27), (4, 28), (4, 29), (4, 30), (4, 31), (4, 32), (4, 33), (4, 34), (4, 35), (4, 36), (4, 37), (4, 38), (4, 39)] rfl (by decide +kernel)
set_option maxRecDepth 20000 in
theorem gX12_readPosition_X12_readNumber : GoodIn wsX12_readPosition (wsV RX12 260 RX12 yX12_readNumber wsX12_readNumber) := goodIn_app (goodIn_of _ (by decide +kernel)) ggX12_readPosition_X12_readNumber
set_option maxRecDepth 20000 in
theorem ggX12_readPosition_X12_mayStand : GoodIn wsX12_readPosition wsX12_mayStand := goodIn_r2 cbX12_readPosition_f _ [(2, 16), (1, 2), (1, 3), (2, 3), (2, 8), (2, 17), (2, 18), (2, 19), (1, 9), (2, 20), (2, 21), (2, 22), (2, 23), (3, 0), (3, 1), (3, 2), (3, 3), (3, 4), (3, 5), (3, 6), (3, 7), (3, 8), (3, 9), (3, 10), (3, 11), (3, 12), (3, 13), (3, 14), (3, 15), (3, 16), (3, 17), (3, 18), (3, 19), (3, 20), (3, 21), (3, 22), (4, 0), (4, 1), (4, 2), (4, 3), (4, 4), (4, 5), (4, 6), (4, 7), (4, 8), (4, 9), (4, 10), (4, 11), (4, 12), (4, 13), (4, 14), (4, 15), (4, 16), (4, 17), (4, 18), (4, 19), (4, 20), (4, 21), (4, 22), (4, 23), (4, 24), (4, 25), (4, 26), (4, 27), (4, 28), (4, 29), (4, 30), (4, 31), (4, 32), (4, 33), (4, 34), (4, 35), (4, 36), (4, 37), (4, 38), (4, 39)] rfl (by decide +kernel)
set_option maxRecDepth 20000 in
theorem gX12_readPosition_X12_mayStand : GoodIn wsX12_readPosition (wsV RX12 264 RX12 yX12_mayStand wsX12_mayStand) := goodIn_app (goodIn_of _ (by decide +kernel)) ggX12_readPosition_X12_mayStand
set_option maxRecDepth 20000 in
theorem ggX12_readTag_X12_blanks : GoodIn wsX12_readTag wsX12_blanks := goodIn_r2 cbX12_readTag_f _ [(1, 11), (1, 0), (1, 3), (1, 12), (6, 0), (6, 1), (6, 2), (6, 3), (6, 4), (6, 5), (6, 6), (6, 7), (6, 8), (6, 9), (6, 10), (6, 11), (6, 12), (6, 13), (6, 14), (6, 15), (6, 16), (6, 17), (6, 18), (6, 19), (6, 20), (6, 21), (6, 22), (6, 23), (6, 24), (6, 25), (6, 26), (6, 27), (6, 28), (6, 29), (6, 30), (6, 31), (6, 32), (6, 33), (6, 34), (6, 35), (6, 36), (6, 37), (6, 38), (6, 39)] rfl (by decide +kernel)
set_option maxRecDepth 20000 in
theorem gX12_readTag_X12_blanks : GoodIn wsX12_readTag (wsV RX12 273 RX12 yX12_blanks wsX12_blanks) := goodIn_app (goodIn_of _ (by decide +kernel)) ggX12_readTag_X12_blanks
set_option maxRecDepth 20000 in
theorem ggX12_readTag_X12_look : GoodIn wsX12_readTag wsX12_look := goodIn_r2 cbX12_readTag_f _ [(1, 16), (1, 0), (1, 3), (1, 12), (6, 0), (6, 1), (6, 2), (6, 3), (6, 4), (6, 5), (6, 6), (6, 7), (6, 8), (6, 9), (6, 10), (6, 11), (6, 12), (6, 13), (6, 14), (6, 15), (6, 16), (6, 17), (6, 18), (6, 19), (6, 20), (6, 21), (6, 22), (6, 23), (6, 24), (6, 25), (6, 26), (6, 27), (6, 28), (6, 29), (6, 30), (6, 31), (6, 32), (6, 33), (6, 34), (6, 35), (6, 36), (6, 37), (6, 38), (6, 39)] rfl (by decide +kernel)
set_option maxRecDepth 20000 in
theorem gX12_readTag_X12_look : GoodIn wsX12_readTag (wsV RX12 276 RX12 yX12_look wsX12_look) := goodIn_app (goodIn_of _ (by decide +kernel)) ggX12_readTag_X12_look
set_option maxRecDepth 20000 in
theorem ggX12_readTag_X12_isLetter : GoodIn wsX12_readTag wsX12_isLetter := goodIn_r _ [20] rfl (by decide +kernel)
set_option maxRecDepth 20000 in
theorem gX12_readTag_X12_isLetter : GoodIn wsX12_readTag (va_wsS RX12 279 yX12_isLetter wsX12_isLetter) := goodIn_app (goodIn_of _ (by decide +kernel)) ggX12_readTag_X12_isLetter
set_option maxRecDepth 20000 in
theorem ggX12_readTag_X12_isDigit : GoodIn wsX12_readTag wsX12_isDigit := goodIn_r _ [23] rfl (by decide +kernel)
set_option maxRecDepth 20000 in
theorem gX12_readTag_X12_isDigit : GoodIn wsX12_readTag (va_wsS RX12 282 yX12_isDigit wsX12_isDigit) := goodIn_app (goodIn_of _ (by decide +kernel)) ggX12_readTag_X12_isDigit
set_option maxRecDepth 20000 in
theorem ggX12_readTag_X12_fault : GoodIn wsX12_readTag wsX12_fault := goodIn_r _ [26] rfl (by decide +kernel)
set_option maxRecDepth 20000 in
theorem gX12_readTag_X12_fault : GoodIn wsX12_readTag (va_wsS RX12 285 yX12_fault wsX12_fault) := goodIn_app (goodIn_of _ (by decide +kernel)) ggX12_readTag_X12_fault
set_option maxRecDepth 20000 in
theorem ggX12_readTag_X12_isNameThere : GoodIn wsX12_readTag wsX12_isNameThere := goodIn_r2 cbX12_readTag_f _ [(2, 5), (1, 5), (1, 2), (6, 0), (6, 1), (6, 2), (6, 3), (6, 4), (6, 5), (6, 6), (6, 7), (6, 8), (6, 9), (6, 10), (6, 11), (6, 12), (6, 13), (6, 14), (6, 15), (6, 16), (6, 17), (6, 18), (6, 19), (6, 20), (6, 21), (6, 22), (6, 23), (6, 24), (6, 25), (6, 26), (6, 27), (6, 28), (6, 29), (6, 30), (6, 31), (6, 32), (6, 33), (6, 34), (6, 35), (6, 36), (6, 37), (6, 38), (6, 39)] rfl (by decide +kernel)
set_option maxRecDepth 20000 in
theorem gX12_readTag_X12_isNameThere : GoodIn wsX12_readTag (wsV RX12 289 RX12 yX12_isNameThere wsX12_isNameThere) := goodIn_app (goodIn_of _ (by decide +kernel)) ggX12_readTag_X12_isNameThere
set_option maxRecDepth 20000 in
theorem ggX12_readTag_X12_isTag : GoodIn wsX12_readTag wsX12_isTag := goodIn_r2 cbX12_readTag_f _ [(2, 9), (1, 5), (1, 2), (6, 0), (6, 1), (6, 2), (6, 3), (6, 4), (6, 5), (6, 6), (6, 7), (6, 8), (6, 9), (6, 10), (6, 11), (6, 12), (6, 13), (6, 14), (6, 15), (6, 16), (6, 17), (6, 18), (6, 19), (6, 20), (6, 21), (6, 22), (6, 23), (6, 24), (6, 25), (6, 26), (6, 27), (6, 28), (6, 29), (6, 30), (6, 31), (6, 32), (6, 33), (6, 34), (6, 35), (6, 36), (6, 37), (6, 38), (6, 39)] rfl (by decide +kernel)
set_option maxRecDepth 20000 in
theorem gX12_readTag_X12_isTag : GoodIn wsX12_readTag (wsV RX12 292 RX12 yX12_isTag wsX12_isTag) := goodIn_app (goodIn_of _ (by decide +kernel)) ggX12_readTag_X12_isTag
set_option maxRecDepth 20000 in
theorem ggX12_readTag_X12_readPosition : GoodIn wsX12_readTag wsX12_readPosition := goodIn_r2 cbX12_readTag_f _ [(2, 13), (2, 14), (2, 15), (2, 16), (2, 17), (2, 18), (2, 19), (2, 20), (2, 21), (2, 22), (1, 10), (2, 23), (3, 0), (3, 1), (3, 2), (3, 3), (1, 4), (3, 4), (3, 5), (3, 6), (3, 7), (3, 8), (3, 9), (3, 10), (3, 11), (3, 12), (3, 13), (3, 14), (3, 15), (3, 16), (3, 17), (3, 18), (3, 19), (3, 20), (3, 21), (3, 22), (3, 23), (4, 0), (4, 1), (4, 2), (4, 3), (4, 4), (4, 5), (4, 6), (4, 7), (4, 8), (4, 9), (4, 10), (4, 11), (4, 12), (4, 13), (4, 14), (4, 15), (4, 16), (4, 17), (4, 18), (4, 19), (4, 20), (4, 21), (4, 22), (4, 23), (5, 0), (5, 1), (5, 2), (5, 3), (5, 4), (5, 5), (5, 6), (5, 7), (5, 8), (5, 9), (5, 10), (6, 0), (6, 1), (6, 2), (6, 3), (6, 4), (6, 5), (6, 6), (6, 7), (6, 8), (6, 9), (6, 10), (6, 11), (6, 12), (6, 13), (6, 14), (6, 15), (6, 16), (6, 17), (6, 18), (6, 19), (6, 20), (6, 21), (6, 22), (6, 23), (6, 24), (6, 25), (6, 26), (6, 27), (6, 28), (6, 29), (6, 30), (6, 31), (6, 32), (6, 33), (6, 34), (6, 35), (6, 36), (6, 37), (6, 38), (6, 39)] rfl (by decide +kernel)
set_option maxRecDepth 20000 in
theorem gX12_readTag_X12_readPosition : GoodIn wsX12_readTag (wsV RX12 296 RX12 yX12_readPosition wsX12_readPosition) := goodIn_app (goodIn_of _ (by decide +kernel)) ggX12_readTag_X12_readPosition
set_option maxRecDepth 20000 in
theorem ggX12_readTag_X12_start : GoodIn wsX12_readTag wsX12_start := goodIn_r2 cbX12_readTag_f _ [(5, 14), (5, 15), (2, 16), (5, 16), (2, 17), (3, 15), (3, 20), (2, 18), (2, 19), (6, 0), (6, 1), (6, 2), (6, 3), (6, 4), (6, 5), (6, 6), (6, 7), (6, 8), (6, 9), (6, 10), (6, 11), (6, 12), (6, 13), (6, 14), (6, 15), (6, 16), (6, 17), (6, 18), (6, 19), (6, 20), (6, 21), (6, 22), (6, 23), (6, 24), (6, 25), (6, 26), (6, 27), (6, 28), (6, 29), (6, 30), (6, 31), (6, 32), (6, 33), (6, 34), (6, 35), (6, 36), (6, 37), (6, 38), (6, 39)] rfl (by decide +kernel)
set_option maxRecDepth 20000 in
theorem gX12_readTag_X12_start : GoodIn wsX12_readTag (wsV RX12 182 RX12 yX12_start wsX12_start) := goodIn_app (goodIn_of _ (by decide +kernel)) ggX12_readTag_X12_start
set_option maxRecDepth 20000 in
theorem ggX12_readRemarks_X12_blanks : GoodIn wsX12_readRemarks wsX12_blanks := goodIn_r _ [10, 1, 2, 5, 18, 19, 20, 21, 22, 23, 24, 25, 26, 27, 28, 29, 30, 31, 32, 33, 34, 35, 36, 37, 38, 39, 40, 41, 42, 43, 44, 45, 46, 47, 48, 49, 50, 51, 52, 53, 54, 55, 56, 57] rfl (by decide +kernel)
set_option maxRecDepth 20000 in
theorem gX12_readRemarks_X12_blanks : GoodIn wsX12_readRemarks (wsV RX12 273 RX12 yX12_blanks wsX12_blanks) := goodIn_app (goodIn_of _ (by decide +kernel)) ggX12_readRemarks_X12_blanks
set_option maxRecDepth 20000 in
theorem ggX12_readRemarks_X12_look : GoodIn wsX12_readRemarks wsX12_look := goodIn_r _ [14, 1, 2, 5, 18, 19, 20, 21, 22, 23, 24, 25, 26, 27, 28, 29, 30, 31, 32, 33, 34, 35, 36, 37, 38, 39, 40, 41, 42, 43, 44, 45, 46, 47, 48, 49, 50, 51, 52, 53, 54, 55, 56, 57] rfl (by decide +kernel)
set_option maxRecDepth 20000 in
theorem gX12_readRemarks_X12_look : GoodIn wsX12_readRemarks (wsV RX12 276 RX12 yX12_look wsX12_look) := goodIn_app (goodIn_of _ (by decide +kernel)) ggX12_readRemarks_X12_look
set_option maxRecDepth 20000 in
theorem ggX12_readRemarks_X12_fault : GoodIn wsX12_readRemarks wsX12_fault := goodIn_r _ [17] rfl (by decide +kernel)
set_option maxRecDepth 20000 in
theorem gX12_readRemarks_X12_fault : GoodIn wsX12_readRemarks (va_wsS RX12 285 yX12_fault wsX12_fault) := goodIn_app (goodIn_of _ (by decide +kernel)) ggX12_readRemarks_X12_fault
set_option maxRecDepth 20000 in
theorem ggX12_resultHere_X12_look : GoodIn wsX12_resultHere wsX12_look := goodIn_r _ [8, 1, 2, 3, 13, 14, 15, 16, 17, 18, 19, 20, 21, 22, 23, 24, 25, 26, 27, 28, 29, 30, 31, 32, 33, 34, 35, 36, 37, 38, 39, 40, 41, 42, 43, 44, 45, 46, 47, 48, 49, 50, 51, 52] rfl (by decide +kernel)
set_option maxRecDepth 20000 in
theorem gX12_resultHere_X12_look : GoodIn wsX12_resultHere (wsV RX12 276 RX12 yX12_look wsX12_look) := goodIn_app (goodIn_of _ (by decide +kernel)) ggX12_resultHere_X12_look
set_option maxRecDepth 20000 in
theorem ggX12_resultHere_X12_goesOnWith : GoodIn wsX12_resultHere wsX12_goesOnWith := goodIn_r _ [12, 1, 2, 3, 13, 14, 15, 16, 17, 18, 19, 20, 21, 22, 23, 24, 25, 26, 27, 28, 29, 30, 31, 32, 33, 34, 35, 36, 37, 38, 39, 40, 41, 42, 43, 44, 45, 46, 47, 48, 49, 50, 51, 52] rfl (by decide +kernel)
set_option maxRecDepth 20000 in
theorem gX12_resultHere_X12_goesOnWith : GoodIn wsX12_resultHere (wsV RX12 299 RX12 yX12_goesOnWith wsX12_goesOnWith) := goodIn_app (goodIn_of _ (by decide +kernel)) ggX12_resultHere_X12_goesOnWith
set_option maxRecDepth 20000 in
theorem ggX12_readMarks_X12_blanks : GoodIn wsX12_readMarks wsX12_blanks := goodIn_r _ [7, 1, 8, 9, 25, 26, 27, 28, 29, 30, 31, 32, 33, 34, 35, 36, 37, 38, 39, 40, 41, 42, 43, 44, 45, 46, 47, 48, 49, 50, 51, 52, 53, 54, 55, 56, 57, 58, 59, 60, 61, 62, 63, 64] rfl (by decide +kernel)
set_option maxRecDepth 20000 in
theorem gX12_readMarks_X12_blanks : GoodIn wsX12_readMarks (wsV RX12 273 RX12 yX12_blanks wsX12_blanks) := goodIn_app (goodIn_of _ (by decide +kernel)) ggX12_readMarks_X12_blanks
set_option maxRecDepth 20000 in
theorem ggX12_readMarks_X12_look : GoodIn wsX12_readMarks wsX12_look := goodIn_r _ [13, 1, 8, 9, 25, 26, 27, 28, 29, 30, 31, 32, 33, 34, 35, 36, 37, 38, 39, 40, 41, 42, 43, 44, 45, 46, 47, 48, 49, 50, 51, 52, 53, 54, 55, 56, 57, 58, 59, 60, 61, 62, 63, 64] rfl (by decide +kernel)
set_option maxRecDepth 20000 in
theorem gX12_readMarks_X12_look : GoodIn wsX12_readMarks (wsV RX12 276 RX12 yX12_look wsX12_look) := goodIn_app (goodIn_of _ (by decide +kernel)) ggX12_readMarks_X12_look
set_option maxRecDepth 20000 in
theorem ggX12_readMarks_X12_addMarkTo : GoodIn wsX12_readMarks wsX12_addMarkTo := goodIn_r _ [17, 18, 2, 25, 26, 27, 28, 29, 30, 31, 32, 33, 34, 35, 36, 37, 38, 39, 40, 41, 42, 43, 44, 45, 46, 47, 48, 49, 50, 51, 52, 53, 54, 55, 56, 57, 58, 59, 60, 61, 62, 63, 64] rfl (by decide +kernel)
set_option maxRecDepth 20000 in
theorem gX12_readMarks_X12_addMarkTo : GoodIn wsX12_readMarks (wsV RX12 303 RX12 yX12_addMarkTo wsX12_addMarkTo) := goodIn_app (goodIn_of _ (by decide +kernel)) ggX12_readMarks_X12_addMarkTo
set_option maxRecDepth 20000 in
theorem ggX12_readMarks_X12_isDigit : GoodIn wsX12_readMarks wsX12_isDigit := goodIn_r _ [21] rfl (by decide +kernel)
set_option maxRecDepth 20000 in
theorem gX12_readMarks_X12_isDigit : GoodIn wsX12_readMarks (va_wsS RX12 282 yX12_isDigit wsX12_isDigit) := goodIn_app (goodIn_of _ (by decide +kernel)) ggX12_readMarks_X12_isDigit
set_option maxRecDepth 20000 in
theorem ggX12_readMarks_X12_fault : GoodIn wsX12_readMarks wsX12_fault := goodIn_r _ [24] rfl (by decide +kernel)
set_option maxRecDepth 20000 in
theorem gX12_readMarks_X12_fault : GoodIn wsX12_readMarks (va_wsS RX12 285 yX12_fault wsX12_fault) := goodIn_app (goodIn_of _ (by decide +kernel)) ggX12_readMarks_X12_fault
set_option maxRecDepth 20000 in
theorem ggX12_readMoveNumber_X12_look : GoodIn wsX12_readMoveNumber wsX12_look := goodIn_r _ [7, 1, 8, 9, 20, 21, 22, 23, 24, 25, 26, 27, 28, 29, 30, 31, 32, 33, 34, 35, 36, 37, 38, 39, 40, 41, 42, 43, 44, 45, 46, 47, 48, 49, 50, 51, 52, 53, 54, 55, 56, 57, 58, 59] rfl (by decide +kernel)
set_option maxRecDepth 20000 in
theorem gX12_readMoveNumber_X12_look : GoodIn wsX12_readMoveNumber (wsV RX12 276 RX12 yX12_look wsX12_look) := goodIn_app (goodIn_of _ (by decide +kernel)) ggX12_readMoveNumber_X12_look
set_option maxRecDepth 20000 in
theorem ggX12_readMoveNumber_X12_isDigit : GoodIn wsX12_readMoveNumber wsX12_isDigit := goodIn_r _ [12] rfl (by decide +kernel)
set_option maxRecDepth 20000 in
theorem gX12_readMoveNumber_X12_isDigit : GoodIn wsX12_readMoveNumber (va_wsS RX12 282 yX12_isDigit wsX12_isDigit) := goodIn_app (goodIn_of _ (by decide +kernel)) ggX12_readMoveNumber_X12_isDigit
set_option maxRecDepth 20000 in
theorem ggX12_readMoveNumber_X12_fault : GoodIn wsX12_readMoveNumber wsX12_fault := goodIn_r _ [15] rfl (by decide +kernel)
set_option maxRecDepth 20000 in
theorem gX12_readMoveNumber_X12_fault : GoodIn wsX12_readMoveNumber (va_wsS RX12 285 yX12_fault wsX12_fault) := goodIn_app (goodIn_of _ (by decide +kernel)) ggX12_readMoveNumber_X12_fault
set_option maxRecDepth 20000 in
theorem ggX12_readMoveNumber_X12_blanks : GoodIn wsX12_readMoveNumber wsX12_blanks := goodIn_r _ [19, 1, 8, 9, 20, 21, 22, 23, 24, 25, 26, 27, 28, 29, 30, 31, 32, 33, 34, 35, 36, 37, 38, 39, 40, 41, 42, 43, 44, 45, 46, 47, 48, 49, 50, 51, 52, 53, 54, 55, 56, 57, 58, 59] rfl (by decide +kernel)
set_option maxRecDepth 20000 in
theorem gX12_readMoveNumber_X12_blanks : GoodIn wsX12_readMoveNumber (wsV RX12 273 RX12 yX12_blanks wsX12_blanks) := goodIn_app (goodIn_of _ (by decide +kernel)) ggX12_readMoveNumber_X12_blanks
set_option maxRecDepth 20000 in
theorem ggX12_readMove_X12_look : GoodIn wsX12_readMove wsX12_look := goodIn_r2 cbX12_readMove_f _ [(1, 6), (1, 0), (1, 7), (1, 8), (8, 0), (8, 1), (8, 2), (8, 3), (8, 4), (8, 5), (8, 6), (8, 7), (8, 8), (8, 9), (8, 10), (8, 11), (8, 12), (8, 13), (8, 14), (8, 15), (8, 16), (8, 17), (8, 18), (8, 19), (8, 20), (8, 21), (8, 22), (8, 23), (8, 24), (8, 25), (8, 26), (8, 27), (8, 28), (8, 29), (8, 30), (8, 31), (8, 32), (8, 33), (8, 34), (8, 35), (8, 36), (8, 37), (8, 38), (8, 39)] rfl (by decide +kernel)
set_option maxRecDepth 20000 in
theorem gX12_readMove_X12_look : GoodIn wsX12_readMove (wsV RX12 276 RX12 yX12_look wsX12_look) := goodIn_app (goodIn_of _ (by decide +kernel)) ggX12_readMove_X12_look
set_option maxRecDepth 20000 in
theorem ggX12_readMove_X12_isLetter : GoodIn wsX12_readMove wsX12_isLetter := goodIn_r _ [12] rfl (by decide +kernel)
set_option maxRecDepth 20000 in
theorem gX12_readMove_X12_isLetter : GoodIn wsX12_readMove (va_wsS RX12 279 yX12_isLetter wsX12_isLetter) := goodIn_app (goodIn_of _ (by decide +kernel)) ggX12_readMove_X12_isLetter
set_option maxRecDepth 20000 in
theorem ggX12_readMove_X12_fault : GoodIn wsX12_readMove wsX12_fault := goodIn_r _ [15] rfl (by decide +kernel)
set_option maxRecDepth 20000 in
theorem gX12_readMove_X12_fault : GoodIn wsX12_readMove (va_wsS RX12 285 yX12_fault wsX12_fault) := goodIn_app (goodIn_of _ (by decide +kernel)) ggX12_readMove_X12_fault
set_option maxRecDepth 20000 in
theorem ggX12_readMove_X12_isDigit : GoodIn wsX12_readMove wsX12_isDigit := goodIn_r _ [18] rfl (by decide +kernel)
set_option maxRecDepth 20000 in
theorem gX12_readMove_X12_isDigit : GoodIn wsX12_readMove (va_wsS RX12 282 yX12_isDigit wsX12_isDigit) := goodIn_app (goodIn_of _ (by decide +kernel)) ggX12_readMove_X12_isDigit
set_option maxRecDepth 20000 in
theorem ggX12_readMove_X12_understood : GoodIn wsX12_readMove wsX12_understood := goodIn_r2 cbX12_readMove_f _ [(1, 21), (1, 22), (1, 23), (2, 0), (2, 1), (2, 2), (1, 5), (2, 3), (2, 4), (1, 8), (2, 5), (2, 6), (2, 7), (2, 8), (2, 9), (2, 10), (2, 11), (2, 12), (2, 13), (2, 14), (2, 15), (2, 16), (2, 17), (2, 18), (2, 19), (2, 20), (2, 21), (2, 22), (2, 23), (3, 0), (3, 1), (3, 2), (3, 3), (3, 4), (3, 5), (3, 6), (3, 7), (3, 8), (3, 9), (3, 10), (3, 11), (3, 12), (3, 13), (3, 14), (3, 15), (3, 16), (3, 17), (3, 18), (3, 19), (3, 20), (3, 21), (3, 22), (3, 23), (4, 0), (4, 1), (4, 2), (4, 3), (4, 4), (4, 5), (4, 6), (4, 7), (4, 8), (4, 9), (4, 10), (4, 11), (4, 12), (4, 13), (4, 14), (4, 15), (4, 16), (4, 17), (4, 18), (4, 19), (4, 20), (4, 21), (4, 22), (4, 23), (5, 0), (5, 1), (5, 2), (5, 3), (5, 4), (5, 5), (5, 6), (5, 7), (5, 8), (5, 9), (5, 10), (5, 11), (5, 12), (5, 13), (5, 14), (5, 15), (5, 16), (5, 17), (5, 18), (5, 19), (5, 20), (5, 21), (5, 22), (5, 23), (6, 0), (6, 1), (6, 2), (6, 3), (6, 4), (6, 5), (6, 6), (6, 7), (6, 8), (6, 9), (6, 10), (6, 11), (6, 12), (6, 13), (8, 0), (8, 1), (8, 2), (8, 3), (8, 4), (8, 5), (8, 6), (8, 7), (8, 8), (8, 9), (8, 10), (8, 11), (8, 12), (8, 13), (8, 14), (8, 15), (8, 16), (8, 17), (8, 18), (8, 19), (8, 20), (8, 21), (8, 22), (8, 23), (8, 24), (8, 25), (8, 26), (8, 27), (8, 28), (8, 29), (8, 30), (8, 31), (8, 32), (8, 33), (8, 34), (8, 35), (8, 36), (8, 37), (8, 38), (8, 39)] rfl (by decide +kernel)
set_option maxRecDepth 20000 in
theorem gX12_readMove_X12_understood : GoodIn wsX12_readMove (wsV RX12 307 RX12 yX12_understood wsX12_understood) := goodIn_app (goodIn_of _ (by decide +kernel)) ggX12_readMove_X12_understood
set_option maxRecDepth 20000 in
theorem ggX12_readMove_X12_childWith : GoodIn wsX12_readMove wsX12_childWith := goodIn_r2 cbX12_readMove_f _ [(6, 17), (6, 18), (6, 19), (6, 20), (8, 0), (8, 1), (8, 2), (8, 3), (8, 4), (8, 5), (8, 6), (8, 7), (8, 8), (8, 9), (8, 10), (8, 11), (8, 12), (8, 13), (8, 14), (8, 15), (8, 16), (8, 17), (8, 18), (8, 19), (8, 20), (8, 21), (8, 22), (8, 23), (8, 24), (8, 25), (8, 26), (8, 27), (8, 28), (8, 29), (8, 30), (8, 31), (8, 32), (8, 33), (8, 34), (8, 35), (8, 36), (8, 37), (8, 38), (8, 39)] rfl (by decide +kernel)
set_option maxRecDepth 20000 in
theorem gX12_readMove_X12_childWith : GoodIn wsX12_readMove (wsV RX12 310 RX12 yX12_childWith wsX12_childWith) := goodIn_app (goodIn_of _ (by decide +kernel)) ggX12_readMove_X12_childWith
