section
set_option maxRecDepth 20000 in
theorem ggX12_init_X12_clearGame : GoodIn wsX12_init wsX12_clearGame := goodIn_r2 cbX12_init_f _ [(2, 12), (1, 8), (1, 20), (2, 1), (1, 9), (1, 10), (2, 13), (2, 14), (2, 15), (2, 11), (2, 16), (1, 11), (1, 12), (1, 13), (1, 15), (7, 0), (7, 1), (7, 2), (7, 3), (7, 4), (7, 5), (7, 6), (7, 7), (7, 8), (7, 9), (7, 10), (7, 11), (7, 12), (7, 13), (7, 14), (7, 15), (7, 16), (7, 17), (7, 18), (7, 19), (7, 20), (7, 21), (7, 22), (7, 23), (7, 24), (7, 25), (7, 26), (7, 27), (7, 28), (7, 29), (7, 30), (7, 31), (7, 32), (7, 33), (7, 34), (7, 35), (7, 36), (7, 37), (7, 38), (7, 39)] rfl (by decide +kernel)
set_option maxRecDepth 20000 in
theorem gX12_init_X12_clearGame : GoodIn wsX12_init (wsV RX12 88 RX12 yX12_clearGame wsX12_clearGame) := goodIn_app (goodIn_of _ (by decide +kernel)) ggX12_init_X12_clearGame
set_option maxRecDepth 20000 in
theorem ggX12_init_X12_usual : GoodIn wsX12_init wsX12_usual := goodIn_r2 cbX12_init_f _ [(2, 20), (2, 2), (2, 21), (2, 22), (2, 23), (3, 0), (3, 1), (3, 2), (3, 3), (3, 4), (2, 11), (3, 5), (1, 18), (1, 19), (7, 0), (7, 1), (7, 2), (7, 3), (7, 4), (7, 5), (7, 6), (7, 7), (7, 8), (7, 9), (7, 10), (7, 11), (7, 12), (7, 13), (7, 14), (7, 15), (7, 16), (7, 17), (7, 18), (7, 19), (7, 20), (7, 21), (7, 22), (7, 23), (7, 24), (7, 25), (7, 26), (7, 27), (7, 28), (7, 29), (7, 30), (7, 31), (7, 32), (7, 33), (7, 34), (7, 35), (7, 36), (7, 37), (7, 38), (7, 39)] rfl (by decide +kernel)
set_option maxRecDepth 20000 in
theorem gX12_init_X12_usual : GoodIn wsX12_init (wsV RX12 92 RX12 yX12_usual wsX12_usual) := goodIn_app (goodIn_of _ (by decide +kernel)) ggX12_init_X12_usual
set_option maxRecDepth 20000 in
theorem ggX12_init_X12_place : GoodIn wsX12_init wsX12_place := goodIn_r2 cbX12_init_f _ [(3, 9), (2, 6), (1, 9), (2, 2), (1, 18), (1, 19), (2, 21), (2, 22), (2, 23), (3, 0), (3, 1), (1, 10), (3, 10), (3, 11), (3, 12), (2, 11), (3, 13), (3, 14), (3, 15), (3, 16), (3, 17), (3, 18), (3, 19), (3, 20), (3, 21), (3, 22), (3, 23), (4, 0), (4, 1), (4, 2), (4, 3), (4, 4), (4, 5), (4, 6), (4, 7), (4, 8), (4, 9), (4, 10), (4, 11), (4, 12), (2, 5), (4, 13), (4, 14), (4, 15), (4, 16), (4, 17), (4, 18), (4, 19), (4, 20), (4, 21), (4, 22), (4, 23), (5, 0), (5, 1), (5, 2), (5, 3), (5, 4), (5, 5), (5, 6), (5, 7), (5, 8), (5, 9), (5, 10), (5, 11), (5, 12), (5, 13), (5, 14), (5, 15), (5, 16), (5, 17), (5, 18), (5, 19), (5, 20), (5, 21), (5, 22), (5, 23), (2, 3), (2, 4), (6, 0), (6, 1), (6, 2), (6, 3), (6, 4), (6, 5), (6, 6), (6, 7), (6, 8), (6, 9), (6, 10), (6, 11), (7, 0), (7, 1), (7, 2), (7, 3), (7, 4), (7, 5), (7, 6), (7, 7), (7, 8), (7, 9), (7, 10), (7, 11), (7, 12), (7, 13), (7, 14), (7, 15), (7, 16), (7, 17), (7, 18), (7, 19), (7, 20), (7, 21), (7, 22), (7, 23), (7, 24), (7, 25), (7, 26), (7, 27), (7, 28), (7, 29), (7, 30), (7, 31), (7, 32), (7, 33), (7, 34), (7, 35), (7, 36), (7, 37), (7, 38), (7, 39)] rfl (by decide +kernel)
set_option maxRecDepth 20000 in
theorem gX12_init_X12_place : GoodIn wsX12_init (wsV RX12 95 RX12 yX12_place wsX12_place) := goodIn_app (goodIn_of _ (by decide +kernel)) ggX12_init_X12_place
set_option maxRecDepth 20000 in
theorem ggX12_met_X12_step : GoodIn wsX12_met wsX12_step := goodIn_r _ [5] rfl (by decide +kernel)
set_option maxRecDepth 20000 in
theorem gX12_met_X12_step : GoodIn wsX12_met (va_wsS RX12 103 yX12_step wsX12_step) := goodIn_app (goodIn_of _ (by decide +kernel)) ggX12_met_X12_step
set_option maxRecDepth 20000 in
theorem ggX12_isAttacked_X12_step : GoodIn wsX12_isAttacked wsX12_step := goodIn_r _ [4] rfl (by decide +kernel)
set_option maxRecDepth 20000 in
theorem gX12_isAttacked_X12_step : GoodIn wsX12_isAttacked (va_wsS RX12 103 yX12_step wsX12_step) := goodIn_app (goodIn_of _ (by decide +kernel)) ggX12_isAttacked_X12_step
set_option maxRecDepth 20000 in
theorem ggX12_isAttacked_X12_stands : GoodIn wsX12_isAttacked wsX12_stands := goodIn_r _ [8, 9, 14, 15, 16, 17, 18, 19, 20, 21, 22, 23, 24, 25, 26, 27, 28, 29, 30, 31, 32, 33, 34, 35, 36, 37, 38, 39, 40, 41, 42, 43, 44, 45, 46, 47, 48, 49, 50, 51, 52, 53] rfl (by decide +kernel)
set_option maxRecDepth 20000 in
theorem gX12_isAttacked_X12_stands : GoodIn wsX12_isAttacked (wsV RX12 107 RX12 yX12_stands wsX12_stands) := goodIn_app (goodIn_of _ (by decide +kernel)) ggX12_isAttacked_X12_stands
set_option maxRecDepth 20000 in
theorem ggX12_isAttacked_X12_met : GoodIn wsX12_isAttacked wsX12_met := goodIn_r _ [13, 9, 1, 2, 3, 4, 14, 15, 16, 17, 18, 19, 20, 21, 22, 23, 24, 25, 26, 27, 28, 29, 30, 31, 32, 33, 34, 35, 36, 37, 38, 39, 40, 41, 42, 43, 44, 45, 46, 47, 48, 49, 50, 51, 52, 53] rfl (by decide +kernel)
set_option maxRecDepth 20000 in
theorem gX12_isAttacked_X12_met : GoodIn wsX12_isAttacked (wsV RX12 111 RX12 yX12_met wsX12_met) := goodIn_app (goodIn_of _ (by decide +kernel)) ggX12_isAttacked_X12_met
set_option maxRecDepth 20000 in
theorem ggX12_isInCheck_X12_kingOf : GoodIn wsX12_isInCheck wsX12_kingOf := goodIn_r _ [5, 6, 22, 23, 24, 25, 26, 27, 28, 29, 30, 31, 32, 33, 34, 35, 36, 37, 38, 39, 40, 41, 42, 43, 44, 45, 46, 47, 48, 49, 50, 51, 52, 53, 54, 55, 56, 57, 58, 59, 60, 61] rfl (by decide +kernel)
set_option maxRecDepth 20000 in
theorem gX12_isInCheck_X12_kingOf : GoodIn wsX12_isInCheck (wsV RX12 114 RX12 yX12_kingOf wsX12_kingOf) := goodIn_app (goodIn_of _ (by decide +kernel)) ggX12_isInCheck_X12_kingOf
set_option maxRecDepth 20000 in
theorem ggX12_isInCheck_X12_isAttacked : GoodIn wsX12_isInCheck wsX12_isAttacked := goodIn_r _ [10, 11, 12, 4, 13, 14, 15, 16, 17, 6, 18, 19, 20, 21, 22, 23, 24, 25, 26, 27, 28, 29, 30, 31, 32, 33, 34, 35, 36, 37, 38, 39, 40, 41, 42, 43, 44, 45, 46, 47, 48, 49, 50, 51, 52, 53, 54, 55, 56, 57, 58, 59, 60, 61] rfl (by decide +kernel)
set_option maxRecDepth 20000 in
theorem gX12_isInCheck_X12_isAttacked : GoodIn wsX12_isInCheck (wsV RX12 118 RX12 yX12_isAttacked wsX12_isAttacked) := goodIn_app (goodIn_of _ (by decide +kernel)) ggX12_isInCheck_X12_isAttacked
set_option maxRecDepth 20000 in
theorem ggX12_isTaking_X12_kind : GoodIn wsX12_isTaking wsX12_kind := goodIn_r _ [5] rfl (by decide +kernel)
set_option maxRecDepth 20000 in
theorem gX12_isTaking_X12_kind : GoodIn wsX12_isTaking (va_wsS RX12 136 yX12_kind wsX12_kind) := goodIn_app (goodIn_of _ (by decide +kernel)) ggX12_isTaking_X12_kind
set_option maxRecDepth 20000 in
theorem ggX12_make_X12_kind : GoodIn wsX12_make wsX12_kind := goodIn_r _ [9] rfl (by decide +kernel)
set_option maxRecDepth 20000 in
theorem gX12_make_X12_kind : GoodIn wsX12_make (va_wsS RX12 136 yX12_kind wsX12_kind) := goodIn_app (goodIn_of _ (by decide +kernel)) ggX12_make_X12_kind
set_option maxRecDepth 20000 in
theorem ggX12_make_X12_isTaking : GoodIn wsX12_make wsX12_isTaking := goodIn_r2 cbX12_make_f _ [(1, 12), (1, 0), (1, 5), (1, 6), (1, 7), (1, 8), (3, 0), (3, 1), (3, 2), (3, 3), (3, 4), (3, 5), (3, 6), (3, 7), (3, 8), (3, 9), (3, 10), (3, 11), (3, 12), (3, 13), (3, 14), (3, 15), (3, 16), (3, 17), (3, 18), (3, 19), (3, 20), (3, 21), (3, 22), (3, 23), (3, 24), (3, 25), (3, 26), (3, 27), (3, 28), (3, 29), (3, 30), (3, 31), (3, 32), (3, 33), (3, 34), (3, 35), (3, 36), (3, 37), (3, 38), (3, 39)] rfl (by decide +kernel)
set_option maxRecDepth 20000 in
theorem gX12_make_X12_isTaking : GoodIn wsX12_make (wsV RX12 139 RX12 yX12_isTaking wsX12_isTaking) := goodIn_app (goodIn_of _ (by decide +kernel)) ggX12_make_X12_isTaking
set_option maxRecDepth 20000 in
theorem ggX12_make_X12_lose : GoodIn wsX12_make wsX12_lose := goodIn_r2 cbX12_make_f _ [(1, 16), (1, 17), (3, 0), (3, 1), (3, 2), (3, 3), (3, 4), (3, 5), (3, 6), (3, 7), (3, 8), (3, 9), (3, 10), (3, 11), (3, 12), (3, 13), (3, 14), (3, 15), (3, 16), (3, 17), (3, 18), (3, 19), (3, 20), (3, 21), (3, 22), (3, 23), (3, 24), (3, 25), (3, 26), (3, 27), (3, 28), (3, 29), (3, 30), (3, 31), (3, 32), (3, 33), (3, 34), (3, 35), (3, 36), (3, 37), (3, 38), (3, 39)] rfl (by decide +kernel)
set_option maxRecDepth 20000 in
theorem gX12_make_X12_lose : GoodIn wsX12_make (wsV RX12 143 RX12 yX12_lose wsX12_lose) := goodIn_app (goodIn_of _ (by decide +kernel)) ggX12_make_X12_lose
set_option maxRecDepth 20000 in
theorem ggX12_make_X12_step : GoodIn wsX12_make wsX12_step := goodIn_r _ [21] rfl (by decide +kernel)
set_option maxRecDepth 20000 in
theorem gX12_make_X12_step : GoodIn wsX12_make (va_wsS RX12 103 yX12_step wsX12_step) := goodIn_app (goodIn_of _ (by decide +kernel)) ggX12_make_X12_step
set_option maxRecDepth 20000 in
theorem ggX12_make_X12_stands : GoodIn wsX12_make wsX12_stands := goodIn_r2 cbX12_make_f _ [(2, 0), (1, 0), (3, 0), (3, 1), (3, 2), (3, 3), (3, 4), (3, 5), (3, 6), (3, 7), (3, 8), (3, 9), (3, 10), (3, 11), (3, 12), (3, 13), (3, 14), (3, 15), (3, 16), (3, 17), (3, 18), (3, 19), (3, 20), (3, 21), (3, 22), (3, 23), (3, 24), (3, 25), (3, 26), (3, 27), (3, 28), (3, 29), (3, 30), (3, 31), (3, 32), (3, 33), (3, 34), (3, 35), (3, 36), (3, 37), (3, 38), (3, 39)] rfl (by decide +kernel)
set_option maxRecDepth 20000 in
theorem gX12_make_X12_stands : GoodIn wsX12_make (wsV RX12 107 RX12 yX12_stands wsX12_stands) := goodIn_app (goodIn_of _ (by decide +kernel)) ggX12_make_X12_stands
set_option maxRecDepth 20000 in
theorem ggX12_isSafe_X12_keep : GoodIn wsX12_isSafe wsX12_keep := goodIn_r2 cbX12_isSafe_f _ [(1, 5), (1, 6), (1, 7), (1, 8), (1, 0), (1, 9), (1, 10), (1, 11), (1, 12), (4, 0), (4, 1), (4, 2), (4, 3), (4, 4), (4, 5), (4, 6), (4, 7), (4, 8), (4, 9), (4, 10), (4, 11), (4, 12), (4, 13), (4, 14), (4, 15), (4, 16), (4, 17), (4, 18), (4, 19), (4, 20), (4, 21), (4, 22), (4, 23), (4, 24), (4, 25), (4, 26), (4, 27), (4, 28), (4, 29), (4, 30), (4, 31), (4, 32), (4, 33), (4, 34), (4, 35), (4, 36), (4, 37), (4, 38), (4, 39)] rfl (by decide +kernel)
set_option maxRecDepth 20000 in
theorem gX12_isSafe_X12_keep : GoodIn wsX12_isSafe (wsV RX12 146 RX12 yX12_keep wsX12_keep) := goodIn_app (goodIn_of _ (by decide +kernel)) ggX12_isSafe_X12_keep
set_option maxRecDepth 20000 in
theorem ggX12_isSafe_X12_make : GoodIn wsX12_isSafe wsX12_make := goodIn_r2 cbX12_isSafe_f _ [(1, 16), (1, 7), (1, 11), (1, 0), (1, 10), (1, 12), (1, 17), (1, 18), (1, 4), (1, 19), (1, 20), (1, 21), (1, 22), (1, 23), (2, 0), (2, 1), (2, 2), (2, 3), (1, 9), (2, 4), (2, 5), (2, 6), (2, 7), (2, 8), (2, 9), (2, 10), (4, 0), (4, 1), (4, 2), (4, 3), (4, 4), (4, 5), (4, 6), (4, 7), (4, 8), (4, 9), (4, 10), (4, 11), (4, 12), (4, 13), (4, 14), (4, 15), (4, 16), (4, 17), (4, 18), (4, 19), (4, 20), (4, 21), (4, 22), (4, 23), (4, 24), (4, 25), (4, 26), (4, 27), (4, 28), (4, 29), (4, 30), (4, 31), (4, 32), (4, 33), (4, 34), (4, 35), (4, 36), (4, 37), (4, 38), (4, 39)] rfl (by decide +kernel)
set_option maxRecDepth 20000 in
theorem gX12_isSafe_X12_make : GoodIn wsX12_isSafe (wsV RX12 149 RX12 yX12_make wsX12_make) := goodIn_app (goodIn_of _ (by decide +kernel)) ggX12_isSafe_X12_make
set_option maxRecDepth 20000 in
theorem ggX12_isSafe_X12_isInCheck : GoodIn wsX12_isSafe wsX12_isInCheck := goodIn_r2 cbX12_isSafe_f _ [(2, 14), (2, 15), (2, 16), (2, 17), (1, 4), (2, 18), (1, 7), (2, 19), (2, 20), (2, 21), (2, 22), (2, 4), (2, 5), (2, 6), (2, 7), (2, 8), (2, 9), (2, 10), (2, 23), (3, 0), (3, 1), (3, 2), (4, 0), (4, 1), (4, 2), (4, 3), (4, 4), (4, 5), (4, 6), (4, 7), (4, 8), (4, 9), (4, 10), (4, 11), (4, 12), (4, 13), (4, 14), (4, 15), (4, 16), (4, 17), (4, 18), (4, 19), (4, 20), (4, 21), (4, 22), (4, 23), (4, 24), (4, 25), (4, 26), (4, 27), (4, 28), (4, 29), (4, 30), (4, 31), (4, 32), (4, 33), (4, 34), (4, 35), (4, 36), (4, 37), (4, 38), (4, 39)] rfl (by decide +kernel)
set_option maxRecDepth 20000 in
theorem gX12_isSafe_X12_isInCheck : GoodIn wsX12_isSafe (wsV RX12 152 RX12 yX12_isInCheck wsX12_isInCheck) := goodIn_app (goodIn_of _ (by decide +kernel)) ggX12_isSafe_X12_isInCheck
set_option maxRecDepth 20000 in
theorem ggX12_isSafe_X12_bringBack : GoodIn wsX12_isSafe wsX12_bringBack := goodIn_r2 cbX12_isSafe_f _ [(3, 6), (1, 7), (1, 6), (1, 8), (1, 0), (1, 9), (1, 10), (1, 11), (1, 12), (4, 0), (4, 1), (4, 2), (4, 3), (4, 4), (4, 5), (4, 6), (4, 7), (4, 8), (4, 9), (4, 10), (4, 11), (4, 12), (4, 13), (4, 14), (4, 15), (4, 16), (4, 17), (4, 18), (4, 19), (4, 20), (4, 21), (4, 22), (4, 23), (4, 24), (4, 25), (4, 26), (4, 27), (4, 28), (4, 29), (4, 30), (4, 31), (4, 32), (4, 33), (4, 34), (4, 35), (4, 36), (4, 37), (4, 38), (4, 39)] rfl (by decide +kernel)
set_option maxRecDepth 20000 in
theorem gX12_isSafe_X12_bringBack : GoodIn wsX12_isSafe (wsV RX12 155 RX12 yX12_bringBack wsX12_bringBack) := goodIn_app (goodIn_of _ (by decide +kernel)) ggX12_isSafe_X12_bringBack
set_option maxRecDepth 20000 in
theorem ggX12_mayCastle_X12_isClear : GoodIn wsX12_mayCastle wsX12_isClear := goodIn_r _ [7, 8, 24, 25, 26, 27, 28, 29, 30, 31, 32, 33, 34, 35, 36, 37, 38, 39, 40, 41, 42, 43, 44, 45, 46, 47, 48, 49, 50, 51, 52, 53, 54, 55, 56, 57, 58, 59, 60, 61, 62, 63] rfl (by decide +kernel)
set_option maxRecDepth 20000 in
theorem gX12_mayCastle_X12_isClear : GoodIn wsX12_mayCastle (wsV RX12 158 RX12 yX12_isClear wsX12_isClear) := goodIn_app (goodIn_of _ (by decide +kernel)) ggX12_mayCastle_X12_isClear
set_option maxRecDepth 20000 in
theorem ggX12_mayCastle_X12_isAttacked : GoodIn wsX12_mayCastle wsX12_isAttacked := goodIn_r _ [12, 13, 14, 6, 15, 16, 17, 18, 19, 8, 20, 21, 22, 23, 24, 25, 26, 27, 28, 29, 30, 31, 32, 33, 34, 35, 36, 37, 38, 39, 40, 41, 42, 43, 44, 45, 46, 47, 48, 49, 50, 51, 52, 53, 54, 55, 56, 57, 58, 59, 60, 61, 62, 63] rfl (by decide +kernel)
set_option maxRecDepth 20000 in
theorem gX12_mayCastle_X12_isAttacked : GoodIn wsX12_mayCastle (wsV RX12 118 RX12 yX12_isAttacked wsX12_isAttacked) := goodIn_app (goodIn_of _ (by decide +kernel)) ggX12_mayCastle_X12_isAttacked
set_option maxRecDepth 20000 in
theorem ggX12_pawnGoes_X12_sideOf : GoodIn wsX12_pawnGoes wsX12_sideOf := goodIn_r _ [7] rfl (by decide +kernel)
set_option maxRecDepth 20000 in
theorem gX12_pawnGoes_X12_sideOf : GoodIn wsX12_pawnGoes (va_wsS RX12 161 yX12_sideOf wsX12_sideOf) := goodIn_app (goodIn_of _ (by decide +kernel)) ggX12_pawnGoes_X12_sideOf
set_option maxRecDepth 20000 in
theorem ggX12_goes_X12_sideOf : GoodIn wsX12_goes wsX12_sideOf := goodIn_r _ [6] rfl (by decide +kernel)
set_option maxRecDepth 20000 in
theorem gX12_goes_X12_sideOf : GoodIn wsX12_goes (va_wsS RX12 161 yX12_sideOf wsX12_sideOf) := goodIn_app (goodIn_of _ (by decide +kernel)) ggX12_goes_X12_sideOf
set_option maxRecDepth 20000 in
theorem ggX12_goes_X12_kind : GoodIn wsX12_goes wsX12_kind := goodIn_r _ [9] rfl (by decide +kernel)
set_option maxRecDepth 20000 in
theorem gX12_goes_X12_kind : GoodIn wsX12_goes (va_wsS RX12 136 yX12_kind wsX12_kind) := goodIn_app (goodIn_of _ (by decide +kernel)) ggX12_goes_X12_kind
set_option maxRecDepth 20000 in
theorem ggX12_goes_X12_pawnGoes : GoodIn wsX12_goes wsX12_pawnGoes := goodIn_r2 cbX12_goes_f _ [(1, 12), (1, 1), (1, 0), (1, 13), (1, 2), (1, 3), (1, 4), (1, 5), (3, 0), (3, 1), (3, 2), (3, 3), (3, 4), (3, 5), (3, 6), (3, 7), (3, 8), (3, 9), (3, 10), (3, 11), (3, 12), (3, 13), (3, 14), (3, 15), (3, 16), (3, 17), (3, 18), (3, 19), (3, 20), (3, 21), (3, 22), (3, 23), (3, 24), (3, 25), (3, 26), (3, 27), (3, 28), (3, 29), (3, 30), (3, 31), (3, 32), (3, 33), (3, 34), (3, 35), (3, 36), (3, 37), (3, 38), (3, 39)] rfl (by decide +kernel)
set_option maxRecDepth 20000 in
theorem gX12_goes_X12_pawnGoes : GoodIn wsX12_goes (wsV RX12 164 RX12 yX12_pawnGoes wsX12_pawnGoes) := goodIn_app (goodIn_of _ (by decide +kernel)) ggX12_goes_X12_pawnGoes
set_option maxRecDepth 20000 in
theorem ggX12_goes_X12_mayCastle : GoodIn wsX12_goes wsX12_mayCastle := goodIn_r2 cbX12_goes_f _ [(1, 17), (1, 1), (1, 18), (1, 19), (1, 20), (1, 21), (1, 4), (1, 22), (1, 0), (1, 23), (2, 0), (2, 1), (2, 2), (2, 3), (2, 4), (2, 5), (2, 6), (2, 7), (2, 8), (2, 9), (2, 10), (2, 11), (2, 12), (2, 13), (3, 0), (3, 1), (3, 2), (3, 3), (3, 4), (3, 5), (3, 6), (3, 7), (3, 8), (3, 9), (3, 10), (3, 11), (3, 12), (3, 13), (3, 14), (3, 15), (3, 16), (3, 17), (3, 18), (3, 19), (3, 20), (3, 21), (3, 22), (3, 23), (3, 24), (3, 25), (3, 26), (3, 27), (3, 28), (3, 29), (3, 30), (3, 31), (3, 32), (3, 33), (3, 34), (3, 35), (3, 36), (3, 37), (3, 38), (3, 39)] rfl (by decide +kernel)
set_option maxRecDepth 20000 in
theorem gX12_goes_X12_mayCastle : GoodIn wsX12_goes (wsV RX12 167 RX12 yX12_mayCastle wsX12_mayCastle) := goodIn_app (goodIn_of _ (by decide +kernel)) ggX12_goes_X12_mayCastle
set_option maxRecDepth 20000 in
theorem ggX12_goes_X12_step : GoodIn wsX12_goes wsX12_step := goodIn_r _ [30] rfl (by decide +kernel)
set_option maxRecDepth 20000 in
theorem gX12_goes_X12_step : GoodIn wsX12_goes (va_wsS RX12 103 yX12_step wsX12_step) := goodIn_app (goodIn_of _ (by decide +kernel)) ggX12_goes_X12_step
set_option maxRecDepth 20000 in
theorem ggX12_findMoves_X12_sideOf : GoodIn wsX12_findMoves wsX12_sideOf := goodIn_r _ [8] rfl (by decide +kernel)
set_option maxRecDepth 20000 in
theorem gX12_findMoves_X12_sideOf : GoodIn wsX12_findMoves (va_wsS RX12 161 yX12_sideOf wsX12_sideOf) := goodIn_app (goodIn_of _ (by decide +kernel)) ggX12_findMoves_X12_sideOf
set_option maxRecDepth 20000 in
theorem ggX12_findMoves_X12_goes : GoodIn wsX12_findMoves wsX12_goes := goodIn_r2 cbX12_findMoves_f _ [(1, 11), (1, 1), (1, 2), (1, 4), (1, 5), (1, 6), (1, 7), (1, 12), (1, 13), (1, 14), (1, 15), (1, 16), (1, 17), (1, 18), (1, 19), (1, 20), (1, 21), (1, 22), (1, 23), (2, 0), (2, 1), (2, 2), (2, 3), (2, 4), (2, 5), (2, 6), (2, 7), (2, 8), (2, 9), (2, 10), (2, 11), (2, 12), (2, 13), (2, 14), (2, 15), (2, 16), (2, 17), (2, 18), (2, 19), (5, 0), (5, 1), (5, 2), (5, 3), (5, 4), (5, 5), (5, 6), (5, 7), (5, 8), (5, 9), (5, 10), (5, 11), (5, 12), (5, 13), (5, 14), (5, 15), (5, 16), (5, 17), (5, 18), (5, 19), (5, 20), (5, 21), (5, 22), (5, 23), (5, 24), (5, 25), (5, 26), (5, 27), (5, 28), (5, 29), (5, 30), (5, 31), (5, 32), (5, 33), (5, 34), (5, 35), (5, 36), (5, 37), (5, 38), (5, 39)] rfl (by decide +kernel)
set_option maxRecDepth 20000 in
theorem gX12_findMoves_X12_goes : GoodIn wsX12_findMoves (wsV RX12 173 RX12 yX12_goes wsX12_goes) := goodIn_app (goodIn_of _ (by decide +kernel)) ggX12_findMoves_X12_goes
set_option maxRecDepth 20000 in
theorem ggX12_findMoves_X12_kind : GoodIn wsX12_findMoves wsX12_kind := goodIn_r _ [15] rfl (by decide +kernel)
set_option maxRecDepth 20000 in
theorem gX12_findMoves_X12_kind : GoodIn wsX12_findMoves (va_wsS RX12 136 yX12_kind wsX12_kind) := goodIn_app (goodIn_of _ (by decide +kernel)) ggX12_findMoves_X12_kind
set_option maxRecDepth 20000 in
theorem ggX12_findMoves_X12_isSafe : GoodIn wsX12_findMoves wsX12_isSafe := goodIn_r2 cbX12_findMoves_f _ [(2, 23), (1, 2), (3, 0), (3, 1), (3, 2), (1, 6), (3, 3), (3, 4), (1, 1), (3, 5), (2, 0), (1, 19), (3, 6), (3, 7), (3, 8), (3, 9), (3, 10), (3, 11), (1, 12), (1, 13), (1, 14), (3, 12), (3, 13), (3, 14), (3, 15), (3, 16), (3, 17), (3, 18), (3, 19), (2, 9), (2, 10), (2, 11), (2, 12), (2, 13), (2, 14), (2, 15), (3, 20), (3, 21), (3, 22), (3, 23), (4, 0), (4, 1), (4, 2), (4, 3), (2, 5), (2, 6), (2, 7), (2, 8), (2, 16), (2, 17), (2, 18), (2, 19), (4, 4), (4, 5), (4, 6), (4, 7), (5, 0), (5, 1), (5, 2), (5, 3), (5, 4), (5, 5), (5, 6), (5, 7), (5, 8), (5, 9), (5, 10), (5, 11), (5, 12), (5, 13), (5, 14), (5, 15), (5, 16), (5, 17), (5, 18), (5, 19), (5, 20), (5, 21), (5, 22), (5, 23), (5, 24), (5, 25), (5, 26), (5, 27), (5, 28), (5, 29), (5, 30), (5, 31), (5, 32), (5, 33), (5, 34), (5, 35), (5, 36), (5, 37), (5, 38), (5, 39)] rfl (by decide +kernel)
set_option maxRecDepth 20000 in
theorem gX12_findMoves_X12_isSafe : GoodIn wsX12_findMoves (wsV RX12 176 RX12 yX12_isSafe wsX12_isSafe) := goodIn_app (goodIn_of _ (by decide +kernel)) ggX12_findMoves_X12_isSafe
set_option maxRecDepth 20000 in
theorem ggX12_clearGame_X12_clearNode : GoodIn wsX12_clearGame wsX12_clearNode := goodIn_r _ [10, 11, 12, 13, 14, 15, 16, 17, 18, 19, 20, 21, 22, 23, 24, 25, 26, 27, 28, 29, 30, 31, 32, 33, 34, 35, 36, 37, 38, 39, 40, 41, 42, 43, 44, 45, 46, 47, 48, 49, 50, 51, 52, 53, 54] rfl (by decide +kernel)
set_option maxRecDepth 20000 in
theorem gX12_clearGame_X12_clearNode : GoodIn wsX12_clearGame (wsV RX12 179 RX12 yX12_clearNode wsX12_clearNode) := goodIn_app (goodIn_of _ (by decide +kernel)) ggX12_clearGame_X12_clearNode
set_option maxRecDepth 20000 in
theorem ggX12_usual_X12_start : GoodIn wsX12_usual wsX12_start := goodIn_r _ [11, 12, 1, 13, 2, 3, 4, 5, 6, 14, 15, 16, 17, 18, 19, 20, 21, 22, 23, 24, 25, 26, 27, 28, 29, 30, 31, 32, 33, 34, 35, 36, 37, 38, 39, 40, 41, 42, 43, 44, 45, 46, 47, 48, 49, 50, 51, 52, 53] rfl (by decide +kernel)
set_option maxRecDepth 20000 in
theorem gX12_usual_X12_start : GoodIn wsX12_usual (wsV RX12 182 RX12 yX12_start wsX12_start) := goodIn_app (goodIn_of _ (by decide +kernel)) ggX12_usual_X12_start
set_option maxRecDepth 20000 in
theorem ggX12_place_X12_make : GoodIn wsX12_place wsX12_make := goodIn_r2 cbX12_place_f _ [(1, 15), (1, 2), (1, 8), (1, 5), (1, 7), (1, 9), (1, 16), (1, 17), (1, 14), (1, 18), (1, 19), (1, 20), (1, 21), (1, 22), (1, 23), (2, 0), (2, 1), (2, 2), (1, 6), (2, 3), (2, 4), (2, 5), (2, 6), (2, 7), (2, 8), (2, 9), (5, 0), (5, 1), (5, 2), (5, 3), (5, 4), (5, 5), (5, 6), (5, 7), (5, 8), (5, 9), (5, 10), (5, 11), (5, 12), (5, 13), (5, 14), (5, 15), (5, 16), (5, 17), (5, 18), (5, 19), (5, 20), (5, 21), (5, 22), (5, 23), (5, 24), (5, 25), (5, 26), (5, 27), (5, 28), (5, 29), (5, 30), (5, 31), (5, 32), (5, 33), (5, 34), (5, 35), (5, 36), (5, 37), (5, 38), (5, 39)] rfl (by decide +kernel)
set_option maxRecDepth 20000 in
theorem gX12_place_X12_make : GoodIn wsX12_place (wsV RX12 149 RX12 yX12_make wsX12_make) := goodIn_app (goodIn_of _ (by decide +kernel)) ggX12_place_X12_make
set_option maxRecDepth 20000 in
theorem ggX12_place_X12_findMoves : GoodIn wsX12_place wsX12_findMoves := goodIn_r2 cbX12_place_f _ [(2, 13), (2, 14), (1, 2), (1, 5), (2, 15), (2, 16), (2, 17), (1, 14), (2, 18), (2, 19), (2, 20), (2, 21), (2, 22), (1, 16), (1, 17), (1, 18), (2, 23), (3, 0), (3, 1), (3, 2), (1, 7), (3, 3), (3, 4), (3, 5), (3, 6), (1, 6), (3, 7), (3, 8), (3, 9), (3, 10), (3, 11), (3, 12), (3, 13), (3, 14), (2, 3), (2, 4), (2, 5), (2, 6), (2, 7), (2, 8), (2, 9), (3, 15), (3, 16), (3, 17), (3, 18), (3, 19), (3, 20), (3, 21), (3, 22), (3, 23), (4, 0), (4, 1), (4, 2), (4, 3), (4, 4), (1, 8), (1, 9), (1, 11), (1, 12), (1, 13), (1, 15), (1, 19), (1, 20), (1, 21), (1, 22), (1, 23), (2, 0), (2, 1), (2, 2), (4, 5), (4, 6), (4, 7), (4, 8), (4, 9), (4, 10), (4, 11), (4, 12), (4, 13), (4, 14), (4, 15), (4, 16), (5, 0), (5, 1), (5, 2), (5, 3), (5, 4), (5, 5), (5, 6), (5, 7), (5, 8), (5, 9), (5, 10), (5, 11), (5, 12), (5, 13), (5, 14), (5, 15), (5, 16), (5, 17), (5, 18), (5, 19), (5, 20), (5, 21), (5, 22), (5, 23), (5, 24), (5, 25), (5, 26), (5, 27), (5, 28), (5, 29), (5, 30), (5, 31), (5, 32), (5, 33), (5, 34), (5, 35), (5, 36), (5, 37), (5, 38), (5, 39)] rfl (by decide +kernel)
set_option maxRecDepth 20000 in
theorem gX12_place_X12_findMoves : GoodIn wsX12_place (wsV RX12 185 RX12 yX12_findMoves wsX12_findMoves) := goodIn_app (goodIn_of _ (by decide +kernel)) ggX12_place_X12_findMoves
set_option maxRecDepth 20000 in
theorem ggX12_append_X12_clearNode : GoodIn wsX12_append wsX12_clearNode := goodIn_r _ [10, 4, 5, 11, 12, 13, 14, 15, 16, 17, 18, 19, 20, 21, 22, 23, 24, 25, 26, 27, 28, 29, 30, 31, 32, 33, 34, 35, 36, 37, 38, 39, 40, 41, 42, 43, 44, 45, 46, 47, 48, 49, 50, 51, 52] rfl (by decide +kernel)
set_option maxRecDepth 20000 in
theorem gX12_append_X12_clearNode : GoodIn wsX12_append (wsV RX12 179 RX12 yX12_clearNode wsX12_clearNode) := goodIn_app (goodIn_of _ (by decide +kernel)) ggX12_append_X12_clearNode
set_option maxRecDepth 20000 in
theorem ggX12_deepOf_X12_isFirst : GoodIn wsX12_deepOf wsX12_isFirst := goodIn_r _ [6, 7, 1, 8, 9, 10, 11, 12, 13, 14, 15, 16, 17, 18, 19, 20, 21, 22, 23, 24, 25, 26, 27, 28, 29, 30, 31, 32, 33, 34, 35, 36, 37, 38, 39, 40, 41, 42, 43, 44, 45, 46, 47] rfl (by decide +kernel)
set_option maxRecDepth 20000 in
theorem gX12_deepOf_X12_isFirst : GoodIn wsX12_deepOf (wsV RX12 188 RX12 yX12_isFirst wsX12_isFirst) := goodIn_app (goodIn_of _ (by decide +kernel)) ggX12_deepOf_X12_isFirst
set_option maxRecDepth 20000 in
theorem ggX12_spellSquare_X12_spell : GoodIn wsX12_spellSquare wsX12_spell := goodIn_r _ [5, 6, 7, 8, 9, 10, 11, 12, 13, 14, 15, 16, 17, 18, 19, 20, 21, 22, 23, 24, 25, 26, 27, 28, 29, 30, 31, 32, 33, 34, 35, 36, 37, 38, 39, 40, 41, 42, 43, 44, 45, 46, 47] rfl (by decide +kernel)
set_option maxRecDepth 20000 in
theorem gX12_spellSquare_X12_spell : GoodIn wsX12_spellSquare (wsV RX12 194 RX12 yX12_spell wsX12_spell) := goodIn_app (goodIn_of _ (by decide +kernel)) ggX12_spellSquare_X12_spell
set_option maxRecDepth 20000 in
theorem ggX12_isCastling_X12_kind : GoodIn wsX12_isCastling wsX12_kind := goodIn_r _ [5] rfl (by decide +kernel)
set_option maxRecDepth 20000 in
theorem gX12_isCastling_X12_kind : GoodIn wsX12_isCastling (va_wsS RX12 136 yX12_kind wsX12_kind) := goodIn_app (goodIn_of _ (by decide +kernel)) ggX12_isCastling_X12_kind
set_option maxRecDepth 20000 in
theorem ggX12_spellMove_X12_isCastling : GoodIn wsX12_spellMove wsX12_isCastling := goodIn_r _ [7, 2, 8, 9, 6, 10, 23, 24, 25, 26, 27, 28, 29, 30, 31, 32, 33, 34, 35, 36, 37, 38, 39, 40, 41, 42, 43, 44, 45, 46, 47, 48, 49, 50, 51, 52, 53, 54, 55, 56, 57, 58, 59, 60, 61, 62] rfl (by decide +kernel)
set_option maxRecDepth 20000 in
theorem gX12_spellMove_X12_isCastling : GoodIn wsX12_spellMove (wsV RX12 198 RX12 yX12_isCastling wsX12_isCastling) := goodIn_app (goodIn_of _ (by decide +kernel)) ggX12_spellMove_X12_isCastling
set_option maxRecDepth 20000 in
theorem ggX12_spellMove_X12_spell : GoodIn wsX12_spellMove wsX12_spell := goodIn_r _ [14, 15, 1, 23, 24, 25, 26, 27, 28, 29, 30, 31, 32, 33, 34, 35, 36, 37, 38, 39, 40, 41, 42, 43, 44, 45, 46, 47, 48, 49, 50, 51, 52, 53, 54, 55, 56, 57, 58, 59, 60, 61, 62] rfl (by decide +kernel)
set_option maxRecDepth 20000 in
theorem gX12_spellMove_X12_spell : GoodIn wsX12_spellMove (wsV RX12 194 RX12 yX12_spell wsX12_spell) := goodIn_app (goodIn_of _ (by decide +kernel)) ggX12_spellMove_X12_spell
set_option maxRecDepth 20000 in
theorem ggX12_spellMove_X12_kind : GoodIn wsX12_spellMove wsX12_kind := goodIn_r _ [10] rfl (by decide +kernel)
set_option maxRecDepth 20000 in
theorem gX12_spellMove_X12_kind : GoodIn wsX12_spellMove (va_wsS RX12 136 yX12_kind wsX12_kind) := goodIn_app (goodIn_of _ (by decide +kernel)) ggX12_spellMove_X12_kind
set_option maxRecDepth 20000 in
theorem ggX12_spellMove_X12_letter : GoodIn wsX12_spellMove wsX12_letter := goodIn_r _ [18] rfl (by decide +kernel)
set_option maxRecDepth 20000 in
theorem gX12_spellMove_X12_letter : GoodIn wsX12_spellMove (va_wsS RX12 201 yX12_letter wsX12_letter) := goodIn_app (goodIn_of _ (by decide +kernel)) ggX12_spellMove_X12_letter
set_option maxRecDepth 20000 in
theorem ggX12_spellMove_X12_spellSquare : GoodIn wsX12_spellMove wsX12_spellSquare := goodIn_r _ [22, 11, 12, 13, 6, 14, 15, 1, 23, 24, 25, 26, 27, 28, 29, 30, 31, 32, 33, 34, 35, 36, 37, 38, 39, 40, 41, 42, 43, 44, 45, 46, 47, 48, 49, 50, 51, 52, 53, 54, 55, 56, 57, 58, 59, 60, 61, 62] rfl (by decide +kernel)
set_option maxRecDepth 20000 in
theorem gX12_spellMove_X12_spellSquare : GoodIn wsX12_spellMove (wsV RX12 205 RX12 yX12_spellSquare wsX12_spellSquare) := goodIn_app (goodIn_of _ (by decide +kernel)) ggX12_spellMove_X12_spellSquare
set_option maxRecDepth 20000 in
theorem ggX12_behind_X12_keep : GoodIn wsX12_behind wsX12_keep := goodIn_r2 cbX12_behind_f _ [(1, 5), (1, 6), (1, 7), (1, 8), (1, 0), (1, 9), (1, 10), (1, 11), (1, 12), (5, 0), (5, 1), (5, 2), (5, 3), (5, 4), (5, 5), (5, 6), (5, 7), (5, 8), (5, 9), (5, 10), (5, 11), (5, 12), (5, 13), (5, 14), (5, 15), (5, 16), (5, 17), (5, 18), (5, 19), (5, 20), (5, 21), (5, 22), (5, 23), (5, 24), (5, 25), (5, 26), (5, 27), (5, 28), (5, 29), (5, 30), (5, 31), (5, 32), (5, 33), (5, 34), (5, 35), (5, 36), (5, 37), (5, 38), (5, 39)] rfl (by decide +kernel)
set_option maxRecDepth 20000 in
theorem gX12_behind_X12_keep : GoodIn wsX12_behind (wsV RX12 146 RX12 yX12_keep wsX12_keep) := goodIn_app (goodIn_of _ (by decide +kernel)) ggX12_behind_X12_keep
set_option maxRecDepth 20000 in
theorem ggX12_behind_X12_make : GoodIn wsX12_behind wsX12_make := goodIn_r2 cbX12_behind_f _ [(1, 16), (1, 7), (1, 11), (1, 0), (1, 10), (1, 12), (1, 17), (1, 18), (1, 4), (1, 19), (1, 20), (1, 21), (1, 22), (1, 23), (2, 0), (2, 1), (2, 2), (2, 3), (1, 9), (2, 4), (2, 5), (2, 6), (2, 7), (2, 8), (2, 9), (2, 10), (5, 0), (5, 1), (5, 2), (5, 3), (5, 4), (5, 5), (5, 6), (5, 7), (5, 8), (5, 9), (5, 10), (5, 11), (5, 12), (5, 13), (5, 14), (5, 15), (5, 16), (5, 17), (5, 18), (5, 19), (5, 20), (5, 21), (5, 22), (5, 23), (5, 24), (5, 25), (5, 26), (5, 27), (5, 28), (5, 29), (5, 30), (5, 31), (5, 32), (5, 33), (5, 34), (5, 35), (5, 36), (5, 37), (5, 38), (5, 39)] rfl (by decide +kernel)
set_option maxRecDepth 20000 in
theorem gX12_behind_X12_make : GoodIn wsX12_behind (wsV RX12 149 RX12 yX12_make wsX12_make) := goodIn_app (goodIn_of _ (by decide +kernel)) ggX12_behind_X12_make
set_option maxRecDepth 20000 in
theorem ggX12_behind_X12_isInCheck : GoodIn wsX12_behind wsX12_isInCheck := goodIn_r2 cbX12_behind_f _ [(2, 14), (2, 15), (2, 16), (2, 17), (1, 4), (2, 18), (1, 7), (2, 19), (2, 20), (2, 21), (2, 22), (2, 4), (2, 5), (2, 6), (2, 7), (2, 8), (2, 9), (2, 10), (2, 23), (3, 0), (3, 1), (3, 2), (5, 0), (5, 1), (5, 2), (5, 3), (5, 4), (5, 5), (5, 6), (5, 7), (5, 8), (5, 9), (5, 10), (5, 11), (5, 12), (5, 13), (5, 14), (5, 15), (5, 16), (5, 17), (5, 18), (5, 19), (5, 20), (5, 21), (5, 22), (5, 23), (5, 24), (5, 25), (5, 26), (5, 27), (5, 28), (5, 29), (5, 30), (5, 31), (5, 32), (5, 33), (5, 34), (5, 35), (5, 36), (5, 37), (5, 38), (5, 39)] rfl (by decide +kernel)
set_option maxRecDepth 20000 in
theorem gX12_behind_X12_isInCheck : GoodIn wsX12_behind (wsV RX12 152 RX12 yX12_isInCheck wsX12_isInCheck) := goodIn_app (goodIn_of _ (by decide +kernel)) ggX12_behind_X12_isInCheck
set_option maxRecDepth 20000 in
theorem ggX12_behind_X12_goes : GoodIn wsX12_behind wsX12_goes := goodIn_r2 cbX12_behind_f _ [(3, 6), (1, 7), (1, 0), (3, 7), (3, 8), (1, 4), (3, 9), (1, 17), (1, 18), (1, 19), (3, 10), (3, 11), (3, 12), (3, 13), (1, 10), (3, 14), (3, 15), (3, 16), (3, 17), (1, 9), (3, 18), (3, 19), (3, 20), (3, 21), (2, 19), (2, 20), (2, 21), (2, 22), (2, 4), (2, 5), (2, 6), (2, 7), (2, 8), (2, 9), (2, 10), (2, 23), (3, 0), (3, 1), (3, 2), (5, 0), (5, 1), (5, 2), (5, 3), (5, 4), (5, 5), (5, 6), (5, 7), (5, 8), (5, 9), (5, 10), (5, 11), (5, 12), (5, 13), (5, 14), (5, 15), (5, 16), (5, 17), (5, 18), (5, 19), (5, 20), (5, 21), (5, 22), (5, 23), (5, 24), (5, 25), (5, 26), (5, 27), (5, 28), (5, 29), (5, 30), (5, 31), (5, 32), (5, 33), (5, 34), (5, 35), (5, 36), (5, 37), (5, 38), (5, 39)] rfl (by decide +kernel)
set_option maxRecDepth 20000 in
theorem gX12_behind_X12_goes : GoodIn wsX12_behind (wsV RX12 173 RX12 yX12_goes wsX12_goes) := goodIn_app (goodIn_of _ (by decide +kernel)) ggX12_behind_X12_goes
set_option maxRecDepth 20000 in
theorem ggX12_behind_X12_isSafeOnce : GoodIn wsX12_behind wsX12_isSafeOnce := goodIn_r2 cbX12_behind_f _ [(4, 1), (1, 7), (1, 0), (1, 17), (1, 18), (1, 4), (1, 19), (2, 11), (2, 12), (2, 13), (2, 14), (2, 15), (2, 16), (2, 17), (2, 18), (2, 19), (2, 20), (2, 21), (2, 22), (2, 4), (2, 5), (2, 6), (2, 7), (2, 8), (2, 9), (2, 10), (2, 23), (3, 0), (3, 1), (3, 2), (5, 0), (5, 1), (5, 2), (5, 3), (5, 4), (5, 5), (5, 6), (5, 7), (5, 8), (5, 9), (5, 10), (5, 11), (5, 12), (5, 13), (5, 14), (5, 15), (5, 16), (5, 17), (5, 18), (5, 19), (5, 20), (5, 21), (5, 22), (5, 23), (5, 24), (5, 25), (5, 26), (5, 27), (5, 28), (5, 29), (5, 30), (5, 31), (5, 32), (5, 33), (5, 34), (5, 35), (5, 36), (5, 37), (5, 38), (5, 39)] rfl (by decide +kernel)
set_option maxRecDepth 20000 in
theorem gX12_behind_X12_isSafeOnce : GoodIn wsX12_behind (wsV RX12 208 RX12 yX12_isSafeOnce wsX12_isSafeOnce) := goodIn_app (goodIn_of _ (by decide +kernel)) ggX12_behind_X12_isSafeOnce
set_option maxRecDepth 20000 in
theorem ggX12_behind_X12_bringBack : GoodIn wsX12_behind wsX12_bringBack := goodIn_r2 cbX12_behind_f _ [(4, 5), (1, 7), (1, 6), (1, 8), (1, 0), (1, 9), (1, 10), (1, 11), (1, 12), (5, 0), (5, 1), (5, 2), (5, 3), (5, 4), (5, 5), (5, 6), (5, 7), (5, 8), (5, 9), (5, 10), (5, 11), (5, 12), (5, 13), (5, 14), (5, 15), (5, 16), (5, 17), (5, 18), (5, 19), (5, 20), (5, 21), (5, 22), (5, 23), (5, 24), (5, 25), (5, 26), (5, 27), (5, 28), (5, 29), (5, 30), (5, 31), (5, 32), (5, 33), (5, 34), (5, 35), (5, 36), (5, 37), (5, 38), (5, 39)] rfl (by decide +kernel)
set_option maxRecDepth 20000 in
theorem gX12_behind_X12_bringBack : GoodIn wsX12_behind (wsV RX12 155 RX12 yX12_bringBack wsX12_bringBack) := goodIn_app (goodIn_of _ (by decide +kernel)) ggX12_behind_X12_bringBack
set_option maxRecDepth 20000 in
theorem ggX12_isSafeOnce_X12_kind : GoodIn wsX12_isSafeOnce wsX12_kind := goodIn_r _ [6] rfl (by decide +kernel)
set_option maxRecDepth 20000 in
theorem gX12_isSafeOnce_X12_kind : GoodIn wsX12_isSafeOnce (va_wsS RX12 136 yX12_kind wsX12_kind) := goodIn_app (goodIn_of _ (by decide +kernel)) ggX12_isSafeOnce_X12_kind
set_option maxRecDepth 20000 in
theorem ggX12_isSafeOnce_X12_isInCheck : GoodIn wsX12_isSafeOnce wsX12_isInCheck := goodIn_r2 cbX12_isSafeOnce_f _ [(1, 9), (1, 10), (1, 11), (1, 12), (1, 4), (1, 13), (1, 0), (1, 14), (1, 15), (1, 16), (1, 17), (1, 18), (1, 19), (1, 20), (1, 21), (1, 22), (1, 23), (2, 0), (2, 1), (2, 2), (2, 3), (2, 4), (3, 0), (3, 1), (3, 2), (3, 3), (3, 4), (3, 5), (3, 6), (3, 7), (3, 8), (3, 9), (3, 10), (3, 11), (3, 12), (3, 13), (3, 14), (3, 15), (3, 16), (3, 17), (3, 18), (3, 19), (3, 20), (3, 21), (3, 22), (3, 23), (3, 24), (3, 25), (3, 26), (3, 27), (3, 28), (3, 29), (3, 30), (3, 31), (3, 32), (3, 33), (3, 34), (3, 35), (3, 36), (3, 37), (3, 38), (3, 39)] rfl (by decide +kernel)
set_option maxRecDepth 20000 in
theorem gX12_isSafeOnce_X12_isInCheck : GoodIn wsX12_isSafeOnce (wsV RX12 152 RX12 yX12_isInCheck wsX12_isInCheck) := goodIn_app (goodIn_of _ (by decide +kernel)) ggX12_isSafeOnce_X12_isInCheck
set_option maxRecDepth 20000 in
theorem ggX12_apartOf_X12_kind : GoodIn wsX12_apartOf wsX12_kind := goodIn_r _ [7] rfl (by decide +kernel)
set_option maxRecDepth 20000 in
theorem gX12_apartOf_X12_kind : GoodIn wsX12_apartOf (va_wsS RX12 136 yX12_kind wsX12_kind) := goodIn_app (goodIn_of _ (by decide +kernel)) ggX12_apartOf_X12_kind
set_option maxRecDepth 20000 in
theorem ggX12_apartOf_X12_isTaking : GoodIn wsX12_apartOf wsX12_isTaking := goodIn_r _ [11, 1, 4, 5, 6, 7, 12, 13, 14, 15, 16, 17, 18, 19, 20, 21, 22, 23, 24, 25, 26, 27, 28, 29, 30, 31, 32, 33, 34, 35, 36, 37, 38, 39, 40, 41, 42, 43, 44, 45, 46, 47, 48, 49, 50, 51] rfl (by decide +kernel)
set_option maxRecDepth 20000 in
theorem gX12_apartOf_X12_isTaking : GoodIn wsX12_apartOf (wsV RX12 139 RX12 yX12_isTaking wsX12_isTaking) := goodIn_app (goodIn_of _ (by decide +kernel)) ggX12_apartOf_X12_isTaking
set_option maxRecDepth 20000 in
theorem ggX12_spellWhole_X12_apartOf : GoodIn wsX12_spellWhole wsX12_apartOf := goodIn_r2 cbX12_spellWhole_f _ [(1, 4), (1, 5), (1, 6), (1, 7), (1, 8), (1, 9), (1, 3), (1, 10), (1, 11), (1, 12), (1, 13), (1, 14), (6, 0), (6, 1), (6, 2), (6, 3), (6, 4), (6, 5), (6, 6), (6, 7), (6, 8), (6, 9), (6, 10), (6, 11), (6, 12), (6, 13), (6, 14), (6, 15), (6, 16), (6, 17), (6, 18), (6, 19), (6, 20), (6, 21), (6, 22), (6, 23), (6, 24), (6, 25), (6, 26), (6, 27), (6, 28), (6, 29), (6, 30), (6, 31), (6, 32), (6, 33), (6, 34), (6, 35), (6, 36), (6, 37), (6, 38), (6, 39)] rfl (by decide +kernel)
set_option maxRecDepth 20000 in
theorem gX12_spellWhole_X12_apartOf : GoodIn wsX12_spellWhole (wsV RX12 211 RX12 yX12_apartOf wsX12_apartOf) := goodIn_app (goodIn_of _ (by decide +kernel)) ggX12_spellWhole_X12_apartOf
set_option maxRecDepth 20000 in
theorem ggX12_spellWhole_X12_isTaking : GoodIn wsX12_spellWhole wsX12_isTaking := goodIn_r2 cbX12_spellWhole_f _ [(1, 14), (1, 5), (1, 8), (1, 9), (1, 3), (1, 10), (6, 0), (6, 1), (6, 2), (6, 3), (6, 4), (6, 5), (6, 6), (6, 7), (6, 8), (6, 9), (6, 10), (6, 11), (6, 12), (6, 13), (6, 14), (6, 15), (6, 16), (6, 17), (6, 18), (6, 19), (6, 20), (6, 21), (6, 22), (6, 23), (6, 24), (6, 25), (6, 26), (6, 27), (6, 28), (6, 29), (6, 30), (6, 31), (6, 32), (6, 33), (6, 34), (6, 35), (6, 36), (6, 37), (6, 38), (6, 39)] rfl (by decide +kernel)
set_option maxRecDepth 20000 in
theorem gX12_spellWhole_X12_isTaking : GoodIn wsX12_spellWhole (wsV RX12 139 RX12 yX12_isTaking wsX12_isTaking) := goodIn_app (goodIn_of _ (by decide +kernel)) ggX12_spellWhole_X12_isTaking
set_option maxRecDepth 20000 in
theorem ggX12_spellWhole_X12_spellMove : GoodIn wsX12_spellWhole wsX12_spellMove := goodIn_r2 cbX12_spellWhole_f _ [(1, 18), (1, 19), (1, 5), (1, 20), (1, 21), (1, 22), (1, 3), (1, 23), (1, 8), (1, 9), (1, 10), (2, 0), (2, 1), (2, 2), (2, 3), (2, 4), (2, 5), (2, 6), (2, 7), (2, 8), (2, 9), (2, 10), (2, 11), (6, 0), (6, 1), (6, 2), (6, 3), (6, 4), (6, 5), (6, 6), (6, 7), (6, 8), (6, 9), (6, 10), (6, 11), (6, 12), (6, 13), (6, 14), (6, 15), (6, 16), (6, 17), (6, 18), (6, 19), (6, 20), (6, 21), (6, 22), (6, 23), (6, 24), (6, 25), (6, 26), (6, 27), (6, 28), (6, 29), (6, 30), (6, 31), (6, 32), (6, 33), (6, 34), (6, 35), (6, 36), (6, 37), (6, 38), (6, 39)] rfl (by decide +kernel)
set_option maxRecDepth 20000 in
theorem gX12_spellWhole_X12_spellMove : GoodIn wsX12_spellWhole (wsV RX12 214 RX12 yX12_spellMove wsX12_spellMove) := goodIn_app (goodIn_of _ (by decide +kernel)) ggX12_spellWhole_X12_spellMove
set_option maxRecDepth 20000 in
theorem ggX12_spellWhole_X12_behind : GoodIn wsX12_spellWhole wsX12_behind := goodIn_r2 cbX12_spellWhole_f _ [(2, 15), (2, 16), (2, 17), (2, 18), (2, 19), (1, 3), (2, 20), (2, 21), (1, 5), (2, 22), (2, 23), (3, 0), (3, 1), (3, 2), (3, 3), (3, 4), (3, 5), (3, 6), (1, 8), (1, 9), (1, 10), (1, 11), (1, 12), (1, 13), (1, 14), (3, 7), (3, 8), (3, 9), (3, 10), (3, 11), (3, 12), (3, 13), (3, 14), (3, 15), (3, 16), (3, 17), (3, 18), (3, 19), (3, 20), (3, 21), (3, 22), (3, 23), (4, 0), (4, 1), (4, 2), (4, 3), (4, 4), (4, 5), (4, 6), (4, 7), (4, 8), (4, 9), (4, 10), (4, 11), (4, 12), (4, 13), (4, 14), (4, 15), (4, 16), (4, 17), (4, 18), (4, 19), (4, 20), (4, 21), (4, 22), (4, 23), (5, 0), (5, 1), (5, 2), (5, 3), (5, 4), (5, 5), (5, 6), (5, 7), (5, 8), (5, 9), (5, 10), (5, 11), (5, 12), (6, 0), (6, 1), (6, 2), (6, 3), (6, 4), (6, 5), (6, 6), (6, 7), (6, 8), (6, 9), (6, 10), (6, 11), (6, 12), (6, 13), (6, 14), (6, 15), (6, 16), (6, 17), (6, 18), (6, 19), (6, 20), (6, 21), (6, 22), (6, 23), (6, 24), (6, 25), (6, 26), (6, 27), (6, 28), (6, 29), (6, 30), (6, 31), (6, 32), (6, 33), (6, 34), (6, 35), (6, 36), (6, 37), (6, 38), (6, 39)] rfl (by decide +kernel)
set_option maxRecDepth 20000 in
theorem gX12_spellWhole_X12_behind : GoodIn wsX12_spellWhole (wsV RX12 218 RX12 yX12_behind wsX12_behind) := goodIn_app (goodIn_of _ (by decide +kernel)) ggX12_spellWhole_X12_behind
end
section
set_option maxRecDepth 20000 in
theorem ggX12_spellWhole_X12_spell : GoodIn wsX12_spellWhole wsX12_spell := goodIn_r2 cbX12_spellWhole_f _ [(2, 3), (2, 4), (1, 19), (6, 0), (6, 1), (6, 2), (6, 3), (6, 4), (6, 5), (6, 6), (6, 7), (6, 8), (6, 9), (6, 10), (6, 11), (6, 12), (6, 13), (6, 14), (6, 15), (6, 16), (6, 17), (6, 18), (6, 19), (6, 20), (6, 21), (6, 22), (6, 23), (6, 24), (6, 25), (6, 26), (6, 27), (6, 28), (6, 29), (6, 30), (6, 31), (6, 32), (6, 33), (6, 34), (6, 35), (6, 36), (6, 37), (6, 38), (6, 39)] rfl (by decide +kernel)
set_option maxRecDepth 20000 in
theorem gX12_spellWhole_X12_spell : GoodIn wsX12_spellWhole (wsV RX12 194 RX12 yX12_spell wsX12_spell) := goodIn_app (goodIn_of _ (by decide +kernel)) ggX12_spellWhole_X12_spell
set_option maxRecDepth 20000 in
theorem ggX12_fits_X12_kind : GoodIn wsX12_fits wsX12_kind := goodIn_r _ [6] rfl (by decide +kernel)
set_option maxRecDepth 20000 in
theorem gX12_fits_X12_kind : GoodIn wsX12_fits (va_wsS RX12 136 yX12_kind wsX12_kind) := goodIn_app (goodIn_of _ (by decide +kernel)) ggX12_fits_X12_kind
set_option maxRecDepth 20000 in
theorem ggX12_fits_X12_isTaking : GoodIn wsX12_fits wsX12_isTaking := goodIn_r2 cbX12_fits_f _ [(1, 9), (1, 0), (1, 2), (1, 3), (1, 4), (1, 5), (6, 0), (6, 1), (6, 2), (6, 3), (6, 4), (6, 5), (6, 6), (6, 7), (6, 8), (6, 9), (6, 10), (6, 11), (6, 12), (6, 13), (6, 14), (6, 15), (6, 16), (6, 17), (6, 18), (6, 19), (6, 20), (6, 21), (6, 22), (6, 23), (6, 24), (6, 25), (6, 26), (6, 27), (6, 28), (6, 29), (6, 30), (6, 31), (6, 32), (6, 33), (6, 34), (6, 35), (6, 36), (6, 37), (6, 38), (6, 39)] rfl (by decide +kernel)
set_option maxRecDepth 20000 in
theorem gX12_fits_X12_isTaking : GoodIn wsX12_fits (wsV RX12 139 RX12 yX12_isTaking wsX12_isTaking) := goodIn_app (goodIn_of _ (by decide +kernel)) ggX12_fits_X12_isTaking
set_option maxRecDepth 20000 in
theorem ggX12_fits_X12_isCastling : GoodIn wsX12_fits wsX12_isCastling := goodIn_r2 cbX12_fits_f _ [(1, 13), (1, 0), (1, 2), (1, 3), (1, 4), (1, 5), (6, 0), (6, 1), (6, 2), (6, 3), (6, 4), (6, 5), (6, 6), (6, 7), (6, 8), (6, 9), (6, 10), (6, 11), (6, 12), (6, 13), (6, 14), (6, 15), (6, 16), (6, 17), (6, 18), (6, 19), (6, 20), (6, 21), (6, 22), (6, 23), (6, 24), (6, 25), (6, 26), (6, 27), (6, 28), (6, 29), (6, 30), (6, 31), (6, 32), (6, 33), (6, 34), (6, 35), (6, 36), (6, 37), (6, 38), (6, 39)] rfl (by decide +kernel)
set_option maxRecDepth 20000 in
theorem gX12_fits_X12_isCastling : GoodIn wsX12_fits (wsV RX12 198 RX12 yX12_isCastling wsX12_isCastling) := goodIn_app (goodIn_of _ (by decide +kernel)) ggX12_fits_X12_isCastling
set_option maxRecDepth 20000 in
theorem ggX12_fits_X12_spellMove : GoodIn wsX12_fits wsX12_spellMove := goodIn_r2 cbX12_fits_f _ [(1, 17), (1, 18), (1, 0), (1, 10), (1, 11), (1, 12), (1, 4), (1, 13), (1, 2), (1, 3), (1, 5), (1, 19), (1, 20), (1, 21), (1, 22), (1, 23), (2, 0), (2, 1), (2, 2), (2, 3), (2, 4), (2, 5), (2, 6), (6, 0), (6, 1), (6, 2), (6, 3), (6, 4), (6, 5), (6, 6), (6, 7), (6, 8), (6, 9), (6, 10), (6, 11), (6, 12), (6, 13), (6, 14), (6, 15), (6, 16), (6, 17), (6, 18), (6, 19), (6, 20), (6, 21), (6, 22), (6, 23), (6, 24), (6, 25), (6, 26), (6, 27), (6, 28), (6, 29), (6, 30), (6, 31), (6, 32), (6, 33), (6, 34), (6, 35), (6, 36), (6, 37), (6, 38), (6, 39)] rfl (by decide +kernel)
set_option maxRecDepth 20000 in
theorem gX12_fits_X12_spellMove : GoodIn wsX12_fits (wsV RX12 214 RX12 yX12_spellMove wsX12_spellMove) := goodIn_app (goodIn_of _ (by decide +kernel)) ggX12_fits_X12_spellMove
set_option maxRecDepth 20000 in
theorem ggX12_fits_X12_isSpelled : GoodIn wsX12_fits wsX12_isSpelled := goodIn_r2 cbX12_fits_f _ [(2, 10), (1, 1), (1, 18), (1, 23), (6, 0), (6, 1), (6, 2), (6, 3), (6, 4), (6, 5), (6, 6), (6, 7), (6, 8), (6, 9), (6, 10), (6, 11), (6, 12), (6, 13), (6, 14), (6, 15), (6, 16), (6, 17), (6, 18), (6, 19), (6, 20), (6, 21), (6, 22), (6, 23), (6, 24), (6, 25), (6, 26), (6, 27), (6, 28), (6, 29), (6, 30), (6, 31), (6, 32), (6, 33), (6, 34), (6, 35), (6, 36), (6, 37), (6, 38), (6, 39)] rfl (by decide +kernel)
set_option maxRecDepth 20000 in
theorem gX12_fits_X12_isSpelled : GoodIn wsX12_fits (wsV RX12 221 RX12 yX12_isSpelled wsX12_isSpelled) := goodIn_app (goodIn_of _ (by decide +kernel)) ggX12_fits_X12_isSpelled
set_option maxRecDepth 20000 in
theorem ggX12_fits_X12_behind : GoodIn wsX12_fits wsX12_behind := goodIn_r2 cbX12_fits_f _ [(2, 14), (2, 15), (2, 16), (2, 17), (2, 18), (1, 4), (2, 19), (2, 20), (1, 0), (2, 21), (2, 22), (2, 23), (3, 0), (3, 1), (3, 2), (3, 3), (3, 4), (3, 5), (1, 2), (1, 3), (1, 5), (1, 6), (1, 7), (1, 8), (1, 9), (3, 6), (3, 7), (3, 8), (3, 9), (3, 10), (3, 11), (3, 12), (3, 13), (3, 14), (3, 15), (3, 16), (3, 17), (3, 18), (3, 19), (3, 20), (3, 21), (3, 22), (3, 23), (4, 0), (4, 1), (4, 2), (4, 3), (4, 4), (4, 5), (4, 6), (4, 7), (4, 8), (4, 9), (4, 10), (4, 11), (4, 12), (4, 13), (4, 14), (4, 15), (4, 16), (4, 17), (4, 18), (4, 19), (4, 20), (4, 21), (4, 22), (4, 23), (5, 0), (5, 1), (5, 2), (5, 3), (5, 4), (5, 5), (5, 6), (5, 7), (5, 8), (5, 9), (5, 10), (5, 11), (6, 0), (6, 1), (6, 2), (6, 3), (6, 4), (6, 5), (6, 6), (6, 7), (6, 8), (6, 9), (6, 10), (6, 11), (6, 12), (6, 13), (6, 14), (6, 15), (6, 16), (6, 17), (6, 18), (6, 19), (6, 20), (6, 21), (6, 22), (6, 23), (6, 24), (6, 25), (6, 26), (6, 27), (6, 28), (6, 29), (6, 30), (6, 31), (6, 32), (6, 33), (6, 34), (6, 35), (6, 36), (6, 37), (6, 38), (6, 39)] rfl (by decide +kernel)
set_option maxRecDepth 20000 in
theorem gX12_fits_X12_behind : GoodIn wsX12_fits (wsV RX12 218 RX12 yX12_behind wsX12_behind) := goodIn_app (goodIn_of _ (by decide +kernel)) ggX12_fits_X12_behind
set_option maxRecDepth 20000 in
theorem ggX12_understood_X12_fits : GoodIn wsX12_understood wsX12_fits := goodIn_r2 cbX12_understood_f _ [(1, 6), (1, 7), (1, 8), (1, 9), (1, 10), (1, 5), (1, 11), (1, 12), (1, 13), (1, 14), (1, 15), (1, 16), (1, 17), (1, 18), (1, 19), (1, 20), (1, 21), (1, 22), (1, 23), (2, 0), (2, 1), (2, 2), (2, 3), (2, 4), (2, 5), (2, 6), (2, 7), (2, 8), (2, 9), (2, 10), (2, 11), (2, 12), (2, 13), (2, 14), (2, 15), (2, 16), (2, 17), (2, 18), (2, 19), (2, 20), (2, 21), (2, 22), (2, 23), (3, 0), (3, 1), (3, 2), (3, 3), (3, 4), (3, 5), (3, 6), (3, 7), (3, 8), (3, 9), (3, 10), (3, 11), (3, 12), (3, 13), (3, 14), (3, 15), (3, 16), (3, 17), (3, 18), (3, 19), (3, 20), (3, 21), (3, 22), (3, 23), (4, 0), (4, 1), (4, 2), (4, 3), (4, 4), (4, 5), (4, 6), (4, 7), (4, 8), (4, 9), (4, 10), (4, 11), (4, 12), (4, 13), (4, 14), (4, 15), (4, 16), (4, 17), (4, 18), (4, 19), (4, 20), (4, 21), (4, 22), (4, 23), (5, 0), (5, 1), (5, 2), (5, 3), (5, 4), (5, 5), (5, 6), (5, 7), (5, 8), (5, 9), (5, 10), (5, 11), (5, 12), (5, 13), (5, 14), (5, 15), (5, 16), (5, 17), (6, 0), (6, 1), (6, 2), (6, 3), (6, 4), (6, 5), (6, 6), (6, 7), (6, 8), (6, 9), (6, 10), (6, 11), (6, 12), (6, 13), (6, 14), (6, 15), (6, 16), (6, 17), (6, 18), (6, 19), (6, 20), (6, 21), (6, 22), (6, 23), (6, 24), (6, 25), (6, 26), (6, 27), (6, 28), (6, 29), (6, 30), (6, 31), (6, 32), (6, 33), (6, 34), (6, 35), (6, 36), (6, 37), (6, 38), (6, 39)] rfl (by decide +kernel)
set_option maxRecDepth 20000 in
theorem gX12_understood_X12_fits : GoodIn wsX12_understood (wsV RX12 225 RX12 yX12_fits wsX12_fits) := goodIn_app (goodIn_of _ (by decide +kernel)) ggX12_understood_X12_fits
set_option maxRecDepth 20000 in
theorem ggX12_pass_X12_sign : GoodIn wsX12_pass wsX12_sign := goodIn_r _ [6, 1, 7, 8, 9, 10, 11, 12, 13, 14, 15, 16, 17, 18, 19, 20, 21, 22, 23, 24, 25, 26, 27, 28, 29, 30, 31, 32, 33, 34, 35, 36, 37, 38, 39, 40, 41, 42, 43, 44, 45, 46, 47, 48] rfl (by decide +kernel)
set_option maxRecDepth 20000 in
theorem gX12_pass_X12_sign : GoodIn wsX12_pass (wsV RX12 235 RX12 yX12_sign wsX12_sign) := goodIn_app (goodIn_of _ (by decide +kernel)) ggX12_pass_X12_sign
set_option maxRecDepth 20000 in
theorem ggX12_manOf_X12_manOf : GoodIn wsX12_manOf wsX12_manOf := goodIn_r _ [0, 1, 2, 3] rfl (by decide +kernel)
set_option maxRecDepth 20000 in
theorem gX12_manOf_X12_manOf : GoodIn wsX12_manOf (va_wsS RX12 239 yX12_manOf wsX12_manOf) := goodIn_app (goodIn_of _ (by decide +kernel)) ggX12_manOf_X12_manOf
set_option maxRecDepth 20000 in
theorem ggX12_readRank_X12_sign : GoodIn wsX12_readRank wsX12_sign := goodIn_r _ [7, 2, 8, 9, 13, 14, 15, 16, 17, 18, 19, 20, 21, 22, 23, 24, 25, 26, 27, 28, 29, 30, 31, 32, 33, 34, 35, 36, 37, 38, 39, 40, 41, 42, 43, 44, 45, 46, 47, 48, 49, 50, 51, 52] rfl (by decide +kernel)
set_option maxRecDepth 20000 in
theorem gX12_readRank_X12_sign : GoodIn wsX12_readRank (wsV RX12 235 RX12 yX12_sign wsX12_sign) := goodIn_app (goodIn_of _ (by decide +kernel)) ggX12_readRank_X12_sign
set_option maxRecDepth 20000 in
theorem ggX12_readRank_X12_manOf : GoodIn wsX12_readRank wsX12_manOf := goodIn_r _ [12, 10, 11, 6] rfl (by decide +kernel)
set_option maxRecDepth 20000 in
theorem gX12_readRank_X12_manOf : GoodIn wsX12_readRank (va_wsS RX12 239 yX12_manOf wsX12_manOf) := goodIn_app (goodIn_of _ (by decide +kernel)) ggX12_readRank_X12_manOf
set_option maxRecDepth 20000 in
theorem ggX12_readNumber_X12_sign : GoodIn wsX12_readNumber wsX12_sign := goodIn_r _ [6, 1, 7, 8, 9, 10, 11, 12, 13, 14, 15, 16, 17, 18, 19, 20, 21, 22, 23, 24, 25, 26, 27, 28, 29, 30, 31, 32, 33, 34, 35, 36, 37, 38, 39, 40, 41, 42, 43, 44, 45, 46, 47, 48] rfl (by decide +kernel)
set_option maxRecDepth 20000 in
theorem gX12_readNumber_X12_sign : GoodIn wsX12_readNumber (wsV RX12 235 RX12 yX12_sign wsX12_sign) := goodIn_app (goodIn_of _ (by decide +kernel)) ggX12_readNumber_X12_sign
set_option maxRecDepth 20000 in
theorem ggX12_readRights_X12_sign : GoodIn wsX12_readRights wsX12_sign := goodIn_r _ [7, 2, 8, 9, 14, 15, 16, 17, 18, 19, 20, 21, 22, 23, 24, 25, 26, 27, 28, 29, 30, 31, 32, 33, 34, 35, 36, 37, 38, 39, 40, 41, 42, 43, 44, 45, 46, 47, 48, 49, 50, 51, 52, 53] rfl (by decide +kernel)
set_option maxRecDepth 20000 in
theorem gX12_readRights_X12_sign : GoodIn wsX12_readRights (wsV RX12 235 RX12 yX12_sign wsX12_sign) := goodIn_app (goodIn_of _ (by decide +kernel)) ggX12_readRights_X12_sign
set_option maxRecDepth 20000 in
theorem ggX12_readRights_X12_pass : GoodIn wsX12_readRights wsX12_pass := goodIn_r _ [13, 2, 3, 4, 5, 6, 7, 8, 9, 14, 15, 16, 17, 18, 19, 20, 21, 22, 23, 24, 25, 26, 27, 28, 29, 30, 31, 32, 33, 34, 35, 36, 37, 38, 39, 40, 41, 42, 43, 44, 45, 46, 47, 48, 49, 50, 51, 52, 53] rfl (by decide +kernel)
set_option maxRecDepth 20000 in
theorem gX12_readRights_X12_pass : GoodIn wsX12_readRights (wsV RX12 243 RX12 yX12_pass wsX12_pass) := goodIn_app (goodIn_of _ (by decide +kernel)) ggX12_readRights_X12_pass
set_option maxRecDepth 20000 in
theorem ggX12_readPassed_X12_sign : GoodIn wsX12_readPassed wsX12_sign := goodIn_r _ [7, 2, 8, 9, 14, 15, 16, 17, 18, 19, 20, 21, 22, 23, 24, 25, 26, 27, 28, 29, 30, 31, 32, 33, 34, 35, 36, 37, 38, 39, 40, 41, 42, 43, 44, 45, 46, 47, 48, 49, 50, 51, 52, 53] rfl (by decide +kernel)
set_option maxRecDepth 20000 in
theorem gX12_readPassed_X12_sign : GoodIn wsX12_readPassed (wsV RX12 235 RX12 yX12_sign wsX12_sign) := goodIn_app (goodIn_of _ (by decide +kernel)) ggX12_readPassed_X12_sign
set_option maxRecDepth 20000 in
theorem ggX12_readPassed_X12_pass : GoodIn wsX12_readPassed wsX12_pass := goodIn_r _ [13, 2, 3, 4, 5, 6, 7, 8, 9, 14, 15, 16, 17, 18, 19, 20, 21, 22, 23, 24, 25, 26, 27, 28, 29, 30, 31, 32, 33, 34, 35, 36, 37, 38, 39, 40, 41, 42, 43, 44, 45, 46, 47, 48, 49, 50, 51, 52, 53] rfl (by decide +kernel)
set_option maxRecDepth 20000 in
theorem gX12_readPassed_X12_pass : GoodIn wsX12_readPassed (wsV RX12 243 RX12 yX12_pass wsX12_pass) := goodIn_app (goodIn_of _ (by decide +kernel)) ggX12_readPassed_X12_pass
set_option maxRecDepth 20000 in
theorem ggX12_mayStand_X12_countOf : GoodIn wsX12_mayStand wsX12_countOf := goodIn_r2 cbX12_mayStand_f _ [(1, 8), (1, 0), (3, 0), (3, 1), (3, 2), (3, 3), (3, 4), (3, 5), (3, 6), (3, 7), (3, 8), (3, 9), (3, 10), (3, 11), (3, 12), (3, 13), (3, 14), (3, 15), (3, 16), (3, 17), (3, 18), (3, 19), (3, 20), (3, 21), (3, 22), (3, 23), (3, 24), (3, 25), (3, 26), (3, 27), (3, 28), (3, 29), (3, 30), (3, 31), (3, 32), (3, 33), (3, 34), (3, 35), (3, 36), (3, 37), (3, 38), (3, 39)] rfl (by decide +kernel)
set_option maxRecDepth 20000 in
theorem gX12_mayStand_X12_countOf : GoodIn wsX12_mayStand (wsV RX12 247 RX12 yX12_countOf wsX12_countOf) := goodIn_app (goodIn_of _ (by decide +kernel)) ggX12_mayStand_X12_countOf
set_option maxRecDepth 20000 in
theorem ggX12_mayStand_X12_kind : GoodIn wsX12_mayStand wsX12_kind := goodIn_r _ [12] rfl (by decide +kernel)
set_option maxRecDepth 20000 in
theorem gX12_mayStand_X12_kind : GoodIn wsX12_mayStand (va_wsS RX12 136 yX12_kind wsX12_kind) := goodIn_app (goodIn_of _ (by decide +kernel)) ggX12_mayStand_X12_kind
set_option maxRecDepth 20000 in
theorem ggX12_mayStand_X12_isInCheck : GoodIn wsX12_mayStand wsX12_isInCheck := goodIn_r2 cbX12_mayStand_f _ [(1, 15), (1, 16), (1, 17), (1, 18), (1, 7), (1, 19), (1, 0), (1, 20), (1, 21), (1, 22), (1, 23), (2, 0), (2, 1), (2, 2), (2, 3), (2, 4), (2, 5), (2, 6), (2, 7), (2, 8), (2, 9), (2, 10), (3, 0), (3, 1), (3, 2), (3, 3), (3, 4), (3, 5), (3, 6), (3, 7), (3, 8), (3, 9), (3, 10), (3, 11), (3, 12), (3, 13), (3, 14), (3, 15), (3, 16), (3, 17), (3, 18), (3, 19), (3, 20), (3, 21), (3, 22), (3, 23), (3, 24), (3, 25), (3, 26), (3, 27), (3, 28), (3, 29), (3, 30), (3, 31), (3, 32), (3, 33), (3, 34), (3, 35), (3, 36), (3, 37), (3, 38), (3, 39)] rfl (by decide +kernel)
set_option maxRecDepth 20000 in
theorem gX12_mayStand_X12_isInCheck : GoodIn wsX12_mayStand (wsV RX12 152 RX12 yX12_isInCheck wsX12_isInCheck) := goodIn_app (goodIn_of _ (by decide +kernel)) ggX12_mayStand_X12_isInCheck
set_option maxRecDepth 20000 in
theorem ggX12_mayStand_X12_step : GoodIn wsX12_mayStand wsX12_step := goodIn_r _ [27] rfl (by decide +kernel)
set_option maxRecDepth 20000 in
theorem gX12_mayStand_X12_step : GoodIn wsX12_mayStand (va_wsS RX12 103 yX12_step wsX12_step) := goodIn_app (goodIn_of _ (by decide +kernel)) ggX12_mayStand_X12_step
set_option maxRecDepth 20000 in
theorem ggX12_mayStand_X12_stands : GoodIn wsX12_mayStand wsX12_stands := goodIn_r2 cbX12_mayStand_f _ [(2, 6), (1, 0), (3, 0), (3, 1), (3, 2), (3, 3), (3, 4), (3, 5), (3, 6), (3, 7), (3, 8), (3, 9), (3, 10), (3, 11), (3, 12), (3, 13), (3, 14), (3, 15), (3, 16), (3, 17), (3, 18), (3, 19), (3, 20), (3, 21), (3, 22), (3, 23), (3, 24), (3, 25), (3, 26), (3, 27), (3, 28), (3, 29), (3, 30), (3, 31), (3, 32), (3, 33), (3, 34), (3, 35), (3, 36), (3, 37), (3, 38), (3, 39)] rfl (by decide +kernel)
set_option maxRecDepth 20000 in
theorem gX12_mayStand_X12_stands : GoodIn wsX12_mayStand (wsV RX12 107 RX12 yX12_stands wsX12_stands) := goodIn_app (goodIn_of _ (by decide +kernel)) ggX12_mayStand_X12_stands
set_option maxRecDepth 20000 in
theorem ggX12_readPosition_X12_readRank : GoodIn wsX12_readPosition wsX12_readRank := goodIn_r2 cbX12_readPosition_f _ [(1, 10), (1, 2), (1, 0), (1, 11), (1, 12), (1, 13), (1, 9), (1, 14), (1, 1), (1, 15), (1, 16), (1, 17), (1, 18), (4, 0), (4, 1), (4, 2), (4, 3), (4, 4), (4, 5), (4, 6), (4, 7), (4, 8), (4, 9), (4, 10), (4, 11), (4, 12), (4, 13), (4, 14), (4, 15), (4, 16), (4, 17), (4, 18), (4, 19), (4, 20), (4, 21), (4, 22), (4, 23), (4, 24), (4, 25), (4, 26), (4, 27), (4, 28), (4, 29), (4, 30), (4, 31), (4, 32), (4, 33), (4, 34), (4, 35), (4, 36), (4, 37), (4, 38), (4, 39)] rfl (by decide +kernel)
set_option maxRecDepth 20000 in
theorem gX12_readPosition_X12_readRank : GoodIn wsX12_readPosition (wsV RX12 250 RX12 yX12_readRank wsX12_readRank) := goodIn_app (goodIn_of _ (by decide +kernel)) ggX12_readPosition_X12_readRank
set_option maxRecDepth 20000 in
theorem ggX12_readPosition_X12_pass : GoodIn wsX12_readPosition wsX12_pass := goodIn_r2 cbX12_readPosition_f _ [(1, 22), (1, 0), (1, 11), (1, 12), (1, 13), (1, 9), (1, 14), (1, 1), (1, 15), (4, 0), (4, 1), (4, 2), (4, 3), (4, 4), (4, 5), (4, 6), (4, 7), (4, 8), (4, 9), (4, 10), (4, 11), (4, 12), (4, 13), (4, 14), (4, 15), (4, 16), (4, 17), (4, 18), (4, 19), (4, 20), (4, 21), (4, 22), (4, 23), (4, 24), (4, 25), (4, 26), (4, 27), (4, 28), (4, 29), (4, 30), (4, 31), (4, 32), (4, 33), (4, 34), (4, 35), (4, 36), (4, 37), (4, 38), (4, 39)] rfl (by decide +kernel)
set_option maxRecDepth 20000 in
theorem gX12_readPosition_X12_pass : GoodIn wsX12_readPosition (wsV RX12 243 RX12 yX12_pass wsX12_pass) := goodIn_app (goodIn_of _ (by decide +kernel)) ggX12_readPosition_X12_pass
set_option maxRecDepth 20000 in
theorem ggX12_readPosition_X12_sign : GoodIn wsX12_readPosition wsX12_sign := goodIn_r2 cbX12_readPosition_f _ [(1, 14), (1, 0), (1, 1), (1, 15), (4, 0), (4, 1), (4, 2), (4, 3), (4, 4), (4, 5), (4, 6), (4, 7), (4, 8), (4, 9), (4, 10), (4, 11), (4, 12), (4, 13), (4, 14), (4, 15), (4, 16), (4, 17), (4, 18), (4, 19), (4, 20), (4, 21), (4, 22), (4, 23), (4, 24), (4, 25), (4, 26), (4, 27), (4, 28), (4, 29), (4, 30), (4, 31), (4, 32), (4, 33), (4, 34), (4, 35), (4, 36), (4, 37), (4, 38), (4, 39)] rfl (by decide +kernel)
set_option maxRecDepth 20000 in
theorem gX12_readPosition_X12_sign : GoodIn wsX12_readPosition (wsV RX12 235 RX12 yX12_sign wsX12_sign) := goodIn_app (goodIn_of _ (by decide +kernel)) ggX12_readPosition_X12_sign
set_option maxRecDepth 20000 in
theorem ggX12_readPosition_X12_readRights : GoodIn wsX12_readPosition wsX12_readRights := goodIn_r2 cbX12_readPosition_f _ [(2, 2), (2, 3), (1, 0), (1, 11), (1, 12), (1, 13), (1, 9), (1, 14), (1, 1), (1, 15), (1, 19), (1, 20), (1, 21), (1, 22), (4, 0), (4, 1), (4, 2), (4, 3), (4, 4), (4, 5), (4, 6), (4, 7), (4, 8), (4, 9), (4, 10), (4, 11), (4, 12), (4, 13), (4, 14), (4, 15), (4, 16), (4, 17), (4, 18), (4, 19), (4, 20), (4, 21), (4, 22), (4, 23), (4, 24), (4, 25), (4, 26), (4, 27), (4, 28), (4, 29), (4, 30), (4, 31), (4, 32), (4, 33), (4, 34), (4, 35), (4, 36), (4, 37), (4, 38), (4, 39)] rfl (by decide +kernel)
set_option maxRecDepth 20000 in
theorem gX12_readPosition_X12_readRights : GoodIn wsX12_readPosition (wsV RX12 253 RX12 yX12_readRights wsX12_readRights) := goodIn_app (goodIn_of _ (by decide +kernel)) ggX12_readPosition_X12_readRights
set_option maxRecDepth 20000 in
theorem ggX12_readPosition_X12_readPassed : GoodIn wsX12_readPosition wsX12_readPassed := goodIn_r2 cbX12_readPosition_f _ [(2, 7), (2, 8), (1, 0), (1, 11), (1, 12), (1, 13), (1, 9), (1, 14), (1, 1), (1, 15), (1, 19), (1, 20), (1, 21), (1, 22), (4, 0), (4, 1), (4, 2), (4, 3), (4, 4), (4, 5), (4, 6), (4, 7), (4, 8), (4, 9), (4, 10), (4, 11), (4, 12), (4, 13), (4, 14), (4, 15), (4, 16), (4, 17), (4, 18), (4, 19), (4, 20), (4, 21), (4, 22), (4, 23), (4, 24), (4, 25), (4, 26), (4, 27), (4, 28), (4, 29), (4, 30), (4, 31), (4, 32), (4, 33), (4, 34), (4, 35), (4, 36), (4, 37), (4, 38), (4, 39)] rfl (by decide +kernel)
set_option maxRecDepth 20000 in
theorem gX12_readPosition_X12_readPassed : GoodIn wsX12_readPosition (wsV RX12 257 RX12 yX12_readPassed wsX12_readPassed) := goodIn_app (goodIn_of _ (by decide +kernel)) ggX12_readPosition_X12_readPassed
set_option maxRecDepth 20000 in
theorem ggX12_readPosition_X12_readNumber : GoodIn wsX12_readPosition wsX12_readNumber := goodIn_r2 cbX12_readPosition_f _ [(2, 12), (1, 0), (1, 11), (1, 12), (1, 13), (1, 9), (1, 14), (1, 1), (1, 15), (4, 0), (4, 1), (4, 2), (4, 3), (4, 4), (4, 5), (4, 6), (4, 7), (4, 8), (4, 9), (4, 10), (4, 11), (4, 12), (4, 13), (4, 14), (4, 15), (4, 16), (4, 17), (4, 18), (4, 19), (4, 20), (4, 21), (4, 22), (4, 23), (4, 24), (4, 25), (4, 26), (4, 27), (4, 28), (4, 29), (4, 30), (4, 31), (4, 32), (4, 33), (4, 34), (4, 35), (4, 36), (4, 37), (4, 38), (4, 39)] rfl (by decide +kernel)
set_option maxRecDepth 20000 in
theorem gX12_readPosition_X12_readNumber : GoodIn wsX12_readPosition (wsV RX12 260 RX12 yX12_readNumber wsX12_readNumber) := goodIn_app (goodIn_of _ (by decide +kernel)) ggX12_readPosition_X12_readNumber
set_option maxRecDepth 20000 in
theorem ggX12_readPosition_X12_mayStand : GoodIn wsX12_readPosition wsX12_mayStand := goodIn_r2 cbX12_readPosition_f _ [(2, 16), (1, 2), (1, 3), (2, 3), (2, 8), (2, 17), (2, 18), (2, 19), (1, 9), (2, 20), (2, 21), (2, 22), (2, 23), (3, 0), (3, 1), (3, 2), (3, 3), (3, 4), (3, 5), (3, 6), (3, 7), (3, 8), (3, 9), (3, 10), (3, 11), (3, 12), (3, 13), (3, 14), (3, 15), (3, 16), (3, 17), (3, 18), (3, 19), (3, 20), (3, 21), (3, 22), (4, 0), (4, 1), (4, 2), (4, 3), (4, 4), (4, 5), (4, 6), (4, 7), (4, 8), (4, 9), (4, 10), (4, 11), (4, 12), (4, 13), (4, 14), (4, 15), (4, 16), (4, 17), (4, 18), (4, 19), (4, 20), (4, 21), (4, 22), (4, 23), (4, 24), (4, 25), (4, 26), (4, 27), (4, 28), (4, 29), (4, 30), (4, 31), (4, 32), (4, 33), (4, 34), (4, 35), (4, 36), (4, 37), (4, 38), (4, 39)] rfl (by decide +kernel)
set_option maxRecDepth 20000 in
theorem gX12_readPosition_X12_mayStand : GoodIn wsX12_readPosition (wsV RX12 264 RX12 yX12_mayStand wsX12_mayStand) := goodIn_app (goodIn_of _ (by decide +kernel)) ggX12_readPosition_X12_mayStand
set_option maxRecDepth 20000 in
theorem ggX12_readTag_X12_blanks : GoodIn wsX12_readTag wsX12_blanks := goodIn_r2 cbX12_readTag_f _ [(1, 11), (1, 0), (1, 3), (1, 12), (6, 0), (6, 1), (6, 2), (6, 3), (6, 4), (6, 5), (6, 6), (6, 7), (6, 8), (6, 9), (6, 10), (6, 11), (6, 12), (6, 13), (6, 14), (6, 15), (6, 16), (6, 17), (6, 18), (6, 19), (6, 20), (6, 21), (6, 22), (6, 23), (6, 24), (6, 25), (6, 26), (6, 27), (6, 28), (6, 29), (6, 30), (6, 31), (6, 32), (6, 33), (6, 34), (6, 35), (6, 36), (6, 37), (6, 38), (6, 39)] rfl (by decide +kernel)
set_option maxRecDepth 20000 in
theorem gX12_readTag_X12_blanks : GoodIn wsX12_readTag (wsV RX12 273 RX12 yX12_blanks wsX12_blanks) := goodIn_app (goodIn_of _ (by decide +kernel)) ggX12_readTag_X12_blanks
set_option maxRecDepth 20000 in
theorem ggX12_readTag_X12_look : GoodIn wsX12_readTag wsX12_look := goodIn_r2 cbX12_readTag_f _ [(1, 16), (1, 0), (1, 3), (1, 12), (6, 0), (6, 1), (6, 2), (6, 3), (6, 4), (6, 5), (6, 6), (6, 7), (6, 8), (6, 9), (6, 10), (6, 11), (6, 12), (6, 13), (6, 14), (6, 15), (6, 16), (6, 17), (6, 18), (6, 19), (6, 20), (6, 21), (6, 22), (6, 23), (6, 24), (6, 25), (6, 26), (6, 27), (6, 28), (6, 29), (6, 30), (6, 31), (6, 32), (6, 33), (6, 34), (6, 35), (6, 36), (6, 37), (6, 38), (6, 39)] rfl (by decide +kernel)
set_option maxRecDepth 20000 in
theorem gX12_readTag_X12_look : GoodIn wsX12_readTag (wsV RX12 276 RX12 yX12_look wsX12_look) := goodIn_app (goodIn_of _ (by decide +kernel)) ggX12_readTag_X12_look
set_option maxRecDepth 20000 in
theorem ggX12_readTag_X12_isLetter : GoodIn wsX12_readTag wsX12_isLetter := goodIn_r _ [20] rfl (by decide +kernel)
set_option maxRecDepth 20000 in
theorem gX12_readTag_X12_isLetter : GoodIn wsX12_readTag (va_wsS RX12 279 yX12_isLetter wsX12_isLetter) := goodIn_app (goodIn_of _ (by decide +kernel)) ggX12_readTag_X12_isLetter
set_option maxRecDepth 20000 in
theorem ggX12_readTag_X12_isDigit : GoodIn wsX12_readTag wsX12_isDigit := goodIn_r _ [23] rfl (by decide +kernel)
set_option maxRecDepth 20000 in
theorem gX12_readTag_X12_isDigit : GoodIn wsX12_readTag (va_wsS RX12 282 yX12_isDigit wsX12_isDigit) := goodIn_app (goodIn_of _ (by decide +kernel)) ggX12_readTag_X12_isDigit
set_option maxRecDepth 20000 in
theorem ggX12_readTag_X12_fault : GoodIn wsX12_readTag wsX12_fault := goodIn_r _ [26] rfl (by decide +kernel)
set_option maxRecDepth 20000 in
theorem gX12_readTag_X12_fault : GoodIn wsX12_readTag (va_wsS RX12 285 yX12_fault wsX12_fault) := goodIn_app (goodIn_of _ (by decide +kernel)) ggX12_readTag_X12_fault
set_option maxRecDepth 20000 in
theorem ggX12_readTag_X12_isNameThere : GoodIn wsX12_readTag wsX12_isNameThere := goodIn_r2 cbX12_readTag_f _ [(2, 5), (1, 5), (1, 2), (6, 0), (6, 1), (6, 2), (6, 3), (6, 4), (6, 5), (6, 6), (6, 7), (6, 8), (6, 9), (6, 10), (6, 11), (6, 12), (6, 13), (6, 14), (6, 15), (6, 16), (6, 17), (6, 18), (6, 19), (6, 20), (6, 21), (6, 22), (6, 23), (6, 24), (6, 25), (6, 26), (6, 27), (6, 28), (6, 29), (6, 30), (6, 31), (6, 32), (6, 33), (6, 34), (6, 35), (6, 36), (6, 37), (6, 38), (6, 39)] rfl (by decide +kernel)
set_option maxRecDepth 20000 in
theorem gX12_readTag_X12_isNameThere : GoodIn wsX12_readTag (wsV RX12 289 RX12 yX12_isNameThere wsX12_isNameThere) := goodIn_app (goodIn_of _ (by decide +kernel)) ggX12_readTag_X12_isNameThere
set_option maxRecDepth 20000 in
theorem ggX12_readTag_X12_isTag : GoodIn wsX12_readTag wsX12_isTag := goodIn_r2 cbX12_readTag_f _ [(2, 9), (1, 5), (1, 2), (6, 0), (6, 1), (6, 2), (6, 3), (6, 4), (6, 5), (6, 6), (6, 7), (6, 8), (6, 9), (6, 10), (6, 11), (6, 12), (6, 13), (6, 14), (6, 15), (6, 16), (6, 17), (6, 18), (6, 19), (6, 20), (6, 21), (6, 22), (6, 23), (6, 24), (6, 25), (6, 26), (6, 27), (6, 28), (6, 29), (6, 30), (6, 31), (6, 32), (6, 33), (6, 34), (6, 35), (6, 36), (6, 37), (6, 38), (6, 39)] rfl (by decide +kernel)
set_option maxRecDepth 20000 in
theorem gX12_readTag_X12_isTag : GoodIn wsX12_readTag (wsV RX12 292 RX12 yX12_isTag wsX12_isTag) := goodIn_app (goodIn_of _ (by decide +kernel)) ggX12_readTag_X12_isTag
set_option maxRecDepth 20000 in
theorem ggX12_readTag_X12_readPosition : GoodIn wsX12_readTag wsX12_readPosition := goodIn_r2 cbX12_readTag_f _ [(2, 13), (2, 14), (2, 15), (2, 16), (2, 17), (2, 18), (2, 19), (2, 20), (2, 21), (2, 22), (1, 10), (2, 23), (3, 0), (3, 1), (3, 2), (3, 3), (1, 4), (3, 4), (3, 5), (3, 6), (3, 7), (3, 8), (3, 9), (3, 10), (3, 11), (3, 12), (3, 13), (3, 14), (3, 15), (3, 16), (3, 17), (3, 18), (3, 19), (3, 20), (3, 21), (3, 22), (3, 23), (4, 0), (4, 1), (4, 2), (4, 3), (4, 4), (4, 5), (4, 6), (4, 7), (4, 8), (4, 9), (4, 10), (4, 11), (4, 12), (4, 13), (4, 14), (4, 15), (4, 16), (4, 17), (4, 18), (4, 19), (4, 20), (4, 21), (4, 22), (4, 23), (5, 0), (5, 1), (5, 2), (5, 3), (5, 4), (5, 5), (5, 6), (5, 7), (5, 8), (5, 9), (5, 10), (6, 0), (6, 1), (6, 2), (6, 3), (6, 4), (6, 5), (6, 6), (6, 7), (6, 8), (6, 9), (6, 10), (6, 11), (6, 12), (6, 13), (6, 14), (6, 15), (6, 16), (6, 17), (6, 18), (6, 19), (6, 20), (6, 21), (6, 22), (6, 23), (6, 24), (6, 25), (6, 26), (6, 27), (6, 28), (6, 29), (6, 30), (6, 31), (6, 32), (6, 33), (6, 34), (6, 35), (6, 36), (6, 37), (6, 38), (6, 39)] rfl (by decide +kernel)
set_option maxRecDepth 20000 in
theorem gX12_readTag_X12_readPosition : GoodIn wsX12_readTag (wsV RX12 296 RX12 yX12_readPosition wsX12_readPosition) := goodIn_app (goodIn_of _ (by decide +kernel)) ggX12_readTag_X12_readPosition
set_option maxRecDepth 20000 in
theorem ggX12_readTag_X12_start : GoodIn wsX12_readTag wsX12_start := goodIn_r2 cbX12_readTag_f _ [(5, 14), (5, 15), (2, 16), (5, 16), (2, 17), (3, 15), (3, 20), (2, 18), (2, 19), (6, 0), (6, 1), (6, 2), (6, 3), (6, 4), (6, 5), (6, 6), (6, 7), (6, 8), (6, 9), (6, 10), (6, 11), (6, 12), (6, 13), (6, 14), (6, 15), (6, 16), (6, 17), (6, 18), (6, 19), (6, 20), (6, 21), (6, 22), (6, 23), (6, 24), (6, 25), (6, 26), (6, 27), (6, 28), (6, 29), (6, 30), (6, 31), (6, 32), (6, 33), (6, 34), (6, 35), (6, 36), (6, 37), (6, 38), (6, 39)] rfl (by decide +kernel)
set_option maxRecDepth 20000 in
theorem gX12_readTag_X12_start : GoodIn wsX12_readTag (wsV RX12 182 RX12 yX12_start wsX12_start) := goodIn_app (goodIn_of _ (by decide +kernel)) ggX12_readTag_X12_start
set_option maxRecDepth 20000 in
theorem ggX12_readRemarks_X12_blanks : GoodIn wsX12_readRemarks wsX12_blanks := goodIn_r _ [10, 1, 2, 5, 18, 19, 20, 21, 22, 23, 24, 25, 26, 27, 28, 29, 30, 31, 32, 33, 34, 35, 36, 37, 38, 39, 40, 41, 42, 43, 44, 45, 46, 47, 48, 49, 50, 51, 52, 53, 54, 55, 56, 57] rfl (by decide +kernel)
set_option maxRecDepth 20000 in
theorem gX12_readRemarks_X12_blanks : GoodIn wsX12_readRemarks (wsV RX12 273 RX12 yX12_blanks wsX12_blanks) := goodIn_app (goodIn_of _ (by decide +kernel)) ggX12_readRemarks_X12_blanks
set_option maxRecDepth 20000 in
theorem ggX12_readRemarks_X12_look : GoodIn wsX12_readRemarks wsX12_look := goodIn_r _ [14, 1, 2, 5, 18, 19, 20, 21, 22, 23, 24, 25, 26, 27, 28, 29, 30, 31, 32, 33, 34, 35, 36, 37, 38, 39, 40, 41, 42, 43, 44, 45, 46, 47, 48, 49, 50, 51, 52, 53, 54, 55, 56, 57] rfl (by decide +kernel)
set_option maxRecDepth 20000 in
theorem gX12_readRemarks_X12_look : GoodIn wsX12_readRemarks (wsV RX12 276 RX12 yX12_look wsX12_look) := goodIn_app (goodIn_of _ (by decide +kernel)) ggX12_readRemarks_X12_look
set_option maxRecDepth 20000 in
theorem ggX12_readRemarks_X12_fault : GoodIn wsX12_readRemarks wsX12_fault := goodIn_r _ [17] rfl (by decide +kernel)
set_option maxRecDepth 20000 in
theorem gX12_readRemarks_X12_fault : GoodIn wsX12_readRemarks (va_wsS RX12 285 yX12_fault wsX12_fault) := goodIn_app (goodIn_of _ (by decide +kernel)) ggX12_readRemarks_X12_fault
set_option maxRecDepth 20000 in
theorem ggX12_resultHere_X12_look : GoodIn wsX12_resultHere wsX12_look := goodIn_r _ [8, 1, 2, 3, 13, 14, 15, 16, 17, 18, 19, 20, 21, 22, 23, 24, 25, 26, 27, 28, 29, 30, 31, 32, 33, 34, 35, 36, 37, 38, 39, 40, 41, 42, 43, 44, 45, 46, 47, 48, 49, 50, 51, 52] rfl (by decide +kernel)
set_option maxRecDepth 20000 in
theorem gX12_resultHere_X12_look : GoodIn wsX12_resultHere (wsV RX12 276 RX12 yX12_look wsX12_look) := goodIn_app (goodIn_of _ (by decide +kernel)) ggX12_resultHere_X12_look
set_option maxRecDepth 20000 in
theorem ggX12_resultHere_X12_goesOnWith : GoodIn wsX12_resultHere wsX12_goesOnWith := goodIn_r _ [12, 1, 2, 3, 13, 14, 15, 16, 17, 18, 19, 20, 21, 22, 23, 24, 25, 26, 27, 28, 29, 30, 31, 32, 33, 34, 35, 36, 37, 38, 39, 40, 41, 42, 43, 44, 45, 46, 47, 48, 49, 50, 51, 52] rfl (by decide +kernel)
set_option maxRecDepth 20000 in
theorem gX12_resultHere_X12_goesOnWith : GoodIn wsX12_resultHere (wsV RX12 299 RX12 yX12_goesOnWith wsX12_goesOnWith) := goodIn_app (goodIn_of _ (by decide +kernel)) ggX12_resultHere_X12_goesOnWith
set_option maxRecDepth 20000 in
theorem ggX12_readMarks_X12_blanks : GoodIn wsX12_readMarks wsX12_blanks := goodIn_r _ [7, 1, 8, 9, 25, 26, 27, 28, 29, 30, 31, 32, 33, 34, 35, 36, 37, 38, 39, 40, 41, 42, 43, 44, 45, 46, 47, 48, 49, 50, 51, 52, 53, 54, 55, 56, 57, 58, 59, 60, 61, 62, 63, 64] rfl (by decide +kernel)
set_option maxRecDepth 20000 in
theorem gX12_readMarks_X12_blanks : GoodIn wsX12_readMarks (wsV RX12 273 RX12 yX12_blanks wsX12_blanks) := goodIn_app (goodIn_of _ (by decide +kernel)) ggX12_readMarks_X12_blanks
set_option maxRecDepth 20000 in
theorem ggX12_readMarks_X12_look : GoodIn wsX12_readMarks wsX12_look := goodIn_r _ [13, 1, 8, 9, 25, 26, 27, 28, 29, 30, 31, 32, 33, 34, 35, 36, 37, 38, 39, 40, 41, 42, 43, 44, 45, 46, 47, 48, 49, 50, 51, 52, 53, 54, 55, 56, 57, 58, 59, 60, 61, 62, 63, 64] rfl (by decide +kernel)
set_option maxRecDepth 20000 in
theorem gX12_readMarks_X12_look : GoodIn wsX12_readMarks (wsV RX12 276 RX12 yX12_look wsX12_look) := goodIn_app (goodIn_of _ (by decide +kernel)) ggX12_readMarks_X12_look
set_option maxRecDepth 20000 in
theorem ggX12_readMarks_X12_addMarkTo : GoodIn wsX12_readMarks wsX12_addMarkTo := goodIn_r _ [17, 18, 2, 25, 26, 27, 28, 29, 30, 31, 32, 33, 34, 35, 36, 37, 38, 39, 40, 41, 42, 43, 44, 45, 46, 47, 48, 49, 50, 51, 52, 53, 54, 55, 56, 57, 58, 59, 60, 61, 62, 63, 64] rfl (by decide +kernel)
set_option maxRecDepth 20000 in
theorem gX12_readMarks_X12_addMarkTo : GoodIn wsX12_readMarks (wsV RX12 303 RX12 yX12_addMarkTo wsX12_addMarkTo) := goodIn_app (goodIn_of _ (by decide +kernel)) ggX12_readMarks_X12_addMarkTo
set_option maxRecDepth 20000 in
theorem ggX12_readMarks_X12_isDigit : GoodIn wsX12_readMarks wsX12_isDigit := goodIn_r _ [21] rfl (by decide +kernel)
set_option maxRecDepth 20000 in
theorem gX12_readMarks_X12_isDigit : GoodIn wsX12_readMarks (va_wsS RX12 282 yX12_isDigit wsX12_isDigit) := goodIn_app (goodIn_of _ (by decide +kernel)) ggX12_readMarks_X12_isDigit
set_option maxRecDepth 20000 in
theorem ggX12_readMarks_X12_fault : GoodIn wsX12_readMarks wsX12_fault := goodIn_r _ [24] rfl (by decide +kernel)
set_option maxRecDepth 20000 in
theorem gX12_readMarks_X12_fault : GoodIn wsX12_readMarks (va_wsS RX12 285 yX12_fault wsX12_fault) := goodIn_app (goodIn_of _ (by decide +kernel)) ggX12_readMarks_X12_fault
set_option maxRecDepth 20000 in
theorem ggX12_readMoveNumber_X12_look : GoodIn wsX12_readMoveNumber wsX12_look := goodIn_r _ [7, 1, 8, 9, 20, 21, 22, 23, 24, 25, 26, 27, 28, 29, 30, 31, 32, 33, 34, 35, 36, 37, 38, 39, 40, 41, 42, 43, 44, 45, 46, 47, 48, 49, 50, 51, 52, 53, 54, 55, 56, 57, 58, 59] rfl (by decide +kernel)
set_option maxRecDepth 20000 in
theorem gX12_readMoveNumber_X12_look : GoodIn wsX12_readMoveNumber (wsV RX12 276 RX12 yX12_look wsX12_look) := goodIn_app (goodIn_of _ (by decide +kernel)) ggX12_readMoveNumber_X12_look
set_option maxRecDepth 20000 in
theorem ggX12_readMoveNumber_X12_isDigit : GoodIn wsX12_readMoveNumber wsX12_isDigit := goodIn_r _ [12] rfl (by decide +kernel)
set_option maxRecDepth 20000 in
theorem gX12_readMoveNumber_X12_isDigit : GoodIn wsX12_readMoveNumber (va_wsS RX12 282 yX12_isDigit wsX12_isDigit) := goodIn_app (goodIn_of _ (by decide +kernel)) ggX12_readMoveNumber_X12_isDigit
set_option maxRecDepth 20000 in
theorem ggX12_readMoveNumber_X12_fault : GoodIn wsX12_readMoveNumber wsX12_fault := goodIn_r _ [15] rfl (by decide +kernel)
set_option maxRecDepth 20000 in
theorem gX12_readMoveNumber_X12_fault : GoodIn wsX12_readMoveNumber (va_wsS RX12 285 yX12_fault wsX12_fault) := goodIn_app (goodIn_of _ (by decide +kernel)) ggX12_readMoveNumber_X12_fault
set_option maxRecDepth 20000 in
theorem ggX12_readMoveNumber_X12_blanks : GoodIn wsX12_readMoveNumber wsX12_blanks := goodIn_r _ [19, 1, 8, 9, 20, 21, 22, 23, 24, 25, 26, 27, 28, 29, 30, 31, 32, 33, 34, 35, 36, 37, 38, 39, 40, 41, 42, 43, 44, 45, 46, 47, 48, 49, 50, 51, 52, 53, 54, 55, 56, 57, 58, 59] rfl (by decide +kernel)
set_option maxRecDepth 20000 in
theorem gX12_readMoveNumber_X12_blanks : GoodIn wsX12_readMoveNumber (wsV RX12 273 RX12 yX12_blanks wsX12_blanks) := goodIn_app (goodIn_of _ (by decide +kernel)) ggX12_readMoveNumber_X12_blanks
set_option maxRecDepth 20000 in
theorem ggX12_readMove_X12_look : GoodIn wsX12_readMove wsX12_look := goodIn_r2 cbX12_readMove_f _ [(1, 6), (1, 0), (1, 7), (1, 8), (8, 0), (8, 1), (8, 2), (8, 3), (8, 4), (8, 5), (8, 6), (8, 7), (8, 8), (8, 9), (8, 10), (8, 11), (8, 12), (8, 13), (8, 14), (8, 15), (8, 16), (8, 17), (8, 18), (8, 19), (8, 20), (8, 21), (8, 22), (8, 23), (8, 24), (8, 25), (8, 26), (8, 27), (8, 28), (8, 29), (8, 30), (8, 31), (8, 32), (8, 33), (8, 34), (8, 35), (8, 36), (8, 37), (8, 38), (8, 39)] rfl (by decide +kernel)
set_option maxRecDepth 20000 in
theorem gX12_readMove_X12_look : GoodIn wsX12_readMove (wsV RX12 276 RX12 yX12_look wsX12_look) := goodIn_app (goodIn_of _ (by decide +kernel)) ggX12_readMove_X12_look
set_option maxRecDepth 20000 in
theorem ggX12_readMove_X12_isLetter : GoodIn wsX12_readMove wsX12_isLetter := goodIn_r _ [12] rfl (by decide +kernel)
set_option maxRecDepth 20000 in
theorem gX12_readMove_X12_isLetter : GoodIn wsX12_readMove (va_wsS RX12 279 yX12_isLetter wsX12_isLetter) := goodIn_app (goodIn_of _ (by decide +kernel)) ggX12_readMove_X12_isLetter
set_option maxRecDepth 20000 in
theorem ggX12_readMove_X12_fault : GoodIn wsX12_readMove wsX12_fault := goodIn_r _ [15] rfl (by decide +kernel)
set_option maxRecDepth 20000 in
theorem gX12_readMove_X12_fault : GoodIn wsX12_readMove (va_wsS RX12 285 yX12_fault wsX12_fault) := goodIn_app (goodIn_of _ (by decide +kernel)) ggX12_readMove_X12_fault
set_option maxRecDepth 20000 in
theorem ggX12_readMove_X12_isDigit : GoodIn wsX12_readMove wsX12_isDigit := goodIn_r _ [18] rfl (by decide +kernel)
set_option maxRecDepth 20000 in
theorem gX12_readMove_X12_isDigit : GoodIn wsX12_readMove (va_wsS RX12 282 yX12_isDigit wsX12_isDigit) := goodIn_app (goodIn_of _ (by decide +kernel)) ggX12_readMove_X12_isDigit
set_option maxRecDepth 20000 in
theorem ggX12_readMove_X12_understood : GoodIn wsX12_readMove wsX12_understood := goodIn_r2 cbX12_readMove_f _ [(1, 21), (1, 22), (1, 23), (2, 0), (2, 1), (2, 2), (1, 5), (2, 3), (2, 4), (1, 8), (2, 5), (2, 6), (2, 7), (2, 8), (2, 9), (2, 10), (2, 11), (2, 12), (2, 13), (2, 14), (2, 15), (2, 16), (2, 17), (2, 18), (2, 19), (2, 20), (2, 21), (2, 22), (2, 23), (3, 0), (3, 1), (3, 2), (3, 3), (3, 4), (3, 5), (3, 6), (3, 7), (3, 8), (3, 9), (3, 10), (3, 11), (3, 12), (3, 13), (3, 14), (3, 15), (3, 16), (3, 17), (3, 18), (3, 19), (3, 20), (3, 21), (3, 22), (3, 23), (4, 0), (4, 1), (4, 2), (4, 3), (4, 4), (4, 5), (4, 6), (4, 7), (4, 8), (4, 9), (4, 10), (4, 11), (4, 12), (4, 13), (4, 14), (4, 15), (4, 16), (4, 17), (4, 18), (4, 19), (4, 20), (4, 21), (4, 22), (4, 23), (5, 0), (5, 1), (5, 2), (5, 3), (5, 4), (5, 5), (5, 6), (5, 7), (5, 8), (5, 9), (5, 10), (5, 11), (5, 12), (5, 13), (5, 14), (5, 15), (5, 16), (5, 17), (5, 18), (5, 19), (5, 20), (5, 21), (5, 22), (5, 23), (6, 0), (6, 1), (6, 2), (6, 3), (6, 4), (6, 5), (6, 6), (6, 7), (6, 8), (6, 9), (6, 10), (6, 11), (6, 12), (6, 13), (8, 0), (8, 1), (8, 2), (8, 3), (8, 4), (8, 5), (8, 6), (8, 7), (8, 8), (8, 9), (8, 10), (8, 11), (8, 12), (8, 13), (8, 14), (8, 15), (8, 16), (8, 17), (8, 18), (8, 19), (8, 20), (8, 21), (8, 22), (8, 23), (8, 24), (8, 25), (8, 26), (8, 27), (8, 28), (8, 29), (8, 30), (8, 31), (8, 32), (8, 33), (8, 34), (8, 35), (8, 36), (8, 37), (8, 38), (8, 39)] rfl (by decide +kernel)
set_option maxRecDepth 20000 in
theorem gX12_readMove_X12_understood : GoodIn wsX12_readMove (wsV RX12 307 RX12 yX12_understood wsX12_understood) := goodIn_app (goodIn_of _ (by decide +kernel)) ggX12_readMove_X12_understood
set_option maxRecDepth 20000 in
theorem ggX12_readMove_X12_childWith : GoodIn wsX12_readMove wsX12_childWith := goodIn_r2 cbX12_readMove_f _ [(6, 17), (6, 18), (6, 19), (6, 20), (8, 0), (8, 1), (8, 2), (8, 3), (8, 4), (8, 5), (8, 6), (8, 7), (8, 8), (8, 9), (8, 10), (8, 11), (8, 12), (8, 13), (8, 14), (8, 15), (8, 16), (8, 17), (8, 18), (8, 19), (8, 20), (8, 21), (8, 22), (8, 23), (8, 24), (8, 25), (8, 26), (8, 27), (8, 28), (8, 29), (8, 30), (8, 31), (8, 32), (8, 33), (8, 34), (8, 35), (8, 36), (8, 37), (8, 38), (8, 39)] rfl (by decide +kernel)
set_option maxRecDepth 20000 in
theorem gX12_readMove_X12_childWith : GoodIn wsX12_readMove (wsV RX12 310 RX12 yX12_childWith wsX12_childWith) := goodIn_app (goodIn_of _ (by decide +kernel)) ggX12_readMove_X12_childWith
end
section
set_option maxRecDepth 20000 in
theorem ggX12_readMove_X12_append : GoodIn wsX12_readMove wsX12_append := goodIn_r2 cbX12_readMove_f _ [(7, 0), (1, 1), (7, 1), (6, 19), (6, 18), (6, 20), (7, 2), (7, 3), (7, 4), (1, 5), (7, 5), (7, 6), (7, 7), (8, 0), (8, 1), (8, 2), (8, 3), (8, 4), (8, 5), (8, 6), (8, 7), (8, 8), (8, 9), (8, 10), (8, 11), (8, 12), (8, 13), (8, 14), (8, 15), (8, 16), (8, 17), (8, 18), (8, 19), (8, 20), (8, 21), (8, 22), (8, 23), (8, 24), (8, 25), (8, 26), (8, 27), (8, 28), (8, 29), (8, 30), (8, 31), (8, 32), (8, 33), (8, 34), (8, 35), (8, 36), (8, 37), (8, 38), (8, 39)] rfl (by decide +kernel)
set_option maxRecDepth 20000 in
theorem gX12_readMove_X12_append : GoodIn wsX12_readMove (wsV RX12 313 RX12 yX12_append wsX12_append) := goodIn_app (goodIn_of _ (by decide +kernel)) ggX12_readMove_X12_append
set_option maxRecDepth 20000 in
theorem ggX12_readLine_X12_blanks : GoodIn wsX12_readLine wsX12_blanks := goodIn_r2 cbX12_readLine_f _ [(1, 5), (1, 0), (1, 6), (1, 7), (10, 0), (10, 1), (10, 2), (10, 3), (10, 4), (10, 5), (10, 6), (10, 7), (10, 8), (10, 9), (10, 10), (10, 11), (10, 12), (10, 13), (10, 14), (10, 15), (10, 16), (10, 17), (10, 18), (10, 19), (10, 20), (10, 21), (10, 22), (10, 23), (10, 24), (10, 25), (10, 26), (10, 27), (10, 28), (10, 29), (10, 30), (10, 31), (10, 32), (10, 33), (10, 34), (10, 35), (10, 36), (10, 37), (10, 38), (10, 39)] rfl (by decide +kernel)
set_option maxRecDepth 20000 in
theorem gX12_readLine_X12_blanks : GoodIn wsX12_readLine (wsV RX12 273 RX12 yX12_blanks wsX12_blanks) := goodIn_app (goodIn_of _ (by decide +kernel)) ggX12_readLine_X12_blanks
set_option maxRecDepth 20000 in
theorem ggX12_readLine_X12_resultHere : GoodIn wsX12_readLine wsX12_resultHere := goodIn_r2 cbX12_readLine_f _ [(1, 11), (1, 0), (1, 6), (1, 7), (1, 12), (1, 13), (1, 14), (1, 4), (1, 15), (1, 16), (1, 17), (1, 18), (1, 19), (10, 0), (10, 1), (10, 2), (10, 3), (10, 4), (10, 5), (10, 6), (10, 7), (10, 8), (10, 9), (10, 10), (10, 11), (10, 12), (10, 13), (10, 14), (10, 15), (10, 16), (10, 17), (10, 18), (10, 19), (10, 20), (10, 21), (10, 22), (10, 23), (10, 24), (10, 25), (10, 26), (10, 27), (10, 28), (10, 29), (10, 30), (10, 31), (10, 32), (10, 33), (10, 34), (10, 35), (10, 36), (10, 37), (10, 38), (10, 39)] rfl (by decide +kernel)
set_option maxRecDepth 20000 in
theorem gX12_readLine_X12_resultHere : GoodIn wsX12_readLine (wsV RX12 316 RX12 yX12_resultHere wsX12_resultHere) := goodIn_app (goodIn_of _ (by decide +kernel)) ggX12_readLine_X12_resultHere
set_option maxRecDepth 20000 in
theorem ggX12_readLine_X12_look : GoodIn wsX12_readLine wsX12_look := goodIn_r2 cbX12_readLine_f _ [(1, 15), (1, 0), (1, 6), (1, 7), (10, 0), (10, 1), (10, 2), (10, 3), (10, 4), (10, 5), (10, 6), (10, 7), (10, 8), (10, 9), (10, 10), (10, 11), (10, 12), (10, 13), (10, 14), (10, 15), (10, 16), (10, 17), (10, 18), (10, 19), (10, 20), (10, 21), (10, 22), (10, 23), (10, 24), (10, 25), (10, 26), (10, 27), (10, 28), (10, 29), (10, 30), (10, 31), (10, 32), (10, 33), (10, 34), (10, 35), (10, 36), (10, 37), (10, 38), (10, 39)] rfl (by decide +kernel)
set_option maxRecDepth 20000 in
theorem gX12_readLine_X12_look : GoodIn wsX12_readLine (wsV RX12 276 RX12 yX12_look wsX12_look) := goodIn_app (goodIn_of _ (by decide +kernel)) ggX12_readLine_X12_look
set_option maxRecDepth 20000 in
theorem ggX12_readLine_X12_place : GoodIn wsX12_readLine wsX12_place := goodIn_r2 cbX12_readLine_f _ [(1, 23), (2, 0), (2, 1), (2, 2), (2, 3), (2, 4), (2, 5), (2, 6), (2, 7), (2, 8), (2, 9), (2, 10), (2, 11), (2, 12), (2, 13), (1, 4), (2, 14), (2, 15), (2, 16), (2, 17), (2, 18), (2, 19), (2, 20), (2, 21), (2, 22), (2, 23), (3, 0), (3, 1), (3, 2), (3, 3), (3, 4), (3, 5), (3, 6), (3, 7), (3, 8), (3, 9), (3, 10), (3, 11), (3, 12), (3, 13), (3, 14), (3, 15), (3, 16), (3, 17), (3, 18), (3, 19), (3, 20), (3, 21), (3, 22), (3, 23), (4, 0), (4, 1), (4, 2), (4, 3), (4, 4), (4, 5), (4, 6), (4, 7), (4, 8), (4, 9), (4, 10), (4, 11), (4, 12), (4, 13), (4, 14), (4, 15), (4, 16), (4, 17), (4, 18), (4, 19), (4, 20), (4, 21), (4, 22), (4, 23), (5, 0), (5, 1), (5, 2), (5, 3), (5, 4), (5, 5), (5, 6), (5, 7), (5, 8), (5, 9), (5, 10), (5, 11), (5, 12), (5, 13), (5, 14), (5, 15), (10, 0), (10, 1), (10, 2), (10, 3), (10, 4), (10, 5), (10, 6), (10, 7), (10, 8), (10, 9), (10, 10), (10, 11), (10, 12), (10, 13), (10, 14), (10, 15), (10, 16), (10, 17), (10, 18), (10, 19), (10, 20), (10, 21), (10, 22), (10, 23), (10, 24), (10, 25), (10, 26), (10, 27), (10, 28), (10, 29), (10, 30), (10, 31), (10, 32), (10, 33), (10, 34), (10, 35), (10, 36), (10, 37), (10, 38), (10, 39)] rfl (by decide +kernel)
set_option maxRecDepth 20000 in
theorem gX12_readLine_X12_place : GoodIn wsX12_readLine (wsV RX12 95 RX12 yX12_place wsX12_place) := goodIn_app (goodIn_of _ (by decide +kernel)) ggX12_readLine_X12_place
set_option maxRecDepth 20000 in
theorem ggX12_readLine_X12_readMoveNumber : GoodIn wsX12_readLine wsX12_readMoveNumber := goodIn_r2 cbX12_readLine_f _ [(5, 19), (1, 0), (2, 9), (1, 12), (1, 13), (1, 14), (1, 4), (1, 15), (1, 6), (1, 7), (5, 20), (5, 21), (5, 22), (5, 23), (6, 0), (6, 1), (1, 1), (1, 2), (1, 3), (1, 5), (10, 0), (10, 1), (10, 2), (10, 3), (10, 4), (10, 5), (10, 6), (10, 7), (10, 8), (10, 9), (10, 10), (10, 11), (10, 12), (10, 13), (10, 14), (10, 15), (10, 16), (10, 17), (10, 18), (10, 19), (10, 20), (10, 21), (10, 22), (10, 23), (10, 24), (10, 25), (10, 26), (10, 27), (10, 28), (10, 29), (10, 30), (10, 31), (10, 32), (10, 33), (10, 34), (10, 35), (10, 36), (10, 37), (10, 38), (10, 39)] rfl (by decide +kernel)
set_option maxRecDepth 20000 in
theorem gX12_readLine_X12_readMoveNumber : GoodIn wsX12_readLine (wsV RX12 319 RX12 yX12_readMoveNumber wsX12_readMoveNumber) := goodIn_app (goodIn_of _ (by decide +kernel)) ggX12_readLine_X12_readMoveNumber
set_option maxRecDepth 20000 in
theorem ggX12_readLine_X12_readMove : GoodIn wsX12_readLine wsX12_readMove := goodIn_r2 cbX12_readLine_f _ [(6, 5), (1, 0), (6, 6), (1, 12), (1, 13), (1, 14), (1, 4), (1, 15), (1, 6), (1, 7), (6, 7), (6, 8), (6, 9), (5, 23), (6, 0), (6, 1), (5, 20), (5, 21), (5, 22), (6, 10), (6, 11), (6, 12), (6, 13), (3, 13), (3, 14), (6, 14), (6, 15), (6, 16), (6, 17), (2, 2), (2, 15), (2, 16), (2, 17), (2, 18), (2, 19), (2, 20), (2, 21), (6, 18), (6, 19), (6, 20), (6, 21), (6, 22), (6, 23), (7, 0), (7, 1), (7, 2), (7, 3), (7, 4), (7, 5), (7, 6), (7, 7), (7, 8), (7, 9), (7, 10), (7, 11), (7, 12), (7, 13), (7, 14), (7, 15), (7, 16), (7, 17), (7, 18), (7, 19), (7, 20), (7, 21), (7, 22), (2, 5), (4, 22), (4, 23), (5, 0), (5, 1), (5, 2), (5, 3), (2, 6), (2, 7), (2, 8), (2, 9), (2, 11), (2, 12), (2, 13), (2, 14), (2, 22), (2, 23), (3, 0), (3, 1), (3, 2), (3, 3), (3, 4), (3, 5), (3, 6), (3, 7), (3, 8), (5, 4), (5, 5), (5, 6), (5, 7), (5, 8), (5, 9), (5, 10), (5, 11), (4, 10), (4, 11), (4, 12), (4, 13), (4, 14), (4, 15), (4, 16), (4, 17), (3, 18), (3, 19), (3, 20), (3, 21), (3, 15), (3, 16), (3, 17), (3, 22), (3, 23), (4, 0), (4, 1), (4, 2), (4, 3), (4, 4), (4, 5), (4, 6), (4, 7), (4, 8), (4, 9), (7, 23), (8, 0), (8, 1), (8, 2), (5, 12), (5, 13), (5, 14), (5, 15), (8, 3), (8, 4), (8, 5), (8, 6), (8, 7), (2, 10), (8, 8), (8, 9), (8, 10), (8, 11), (8, 12), (2, 1), (8, 13), (8, 14), (8, 15), (8, 16), (8, 17), (8, 18), (10, 0), (10, 1), (10, 2), (10, 3), (10, 4), (10, 5), (10, 6), (10, 7), (10, 8), (10, 9), (10, 10), (10, 11), (10, 12), (10, 13), (10, 14), (10, 15), (10, 16), (10, 17), (10, 18), (10, 19), (10, 20), (10, 21), (10, 22), (10, 23), (10, 24), (10, 25), (10, 26), (10, 27), (10, 28), (10, 29), (10, 30), (10, 31), (10, 32), (10, 33), (10, 34), (10, 35), (10, 36), (10, 37), (10, 38), (10, 39)] rfl (by decide +kernel)
set_option maxRecDepth 20000 in
theorem gX12_readLine_X12_readMove : GoodIn wsX12_readLine (wsV RX12 322 RX12 yX12_readMove wsX12_readMove) := goodIn_app (goodIn_of _ (by decide +kernel)) ggX12_readLine_X12_readMove
set_option maxRecDepth 20000 in
theorem ggX12_readLine_X12_readMarks : GoodIn wsX12_readLine wsX12_readMarks := goodIn_r2 cbX12_readLine_f _ [(8, 22), (1, 0), (8, 17), (1, 1), (1, 2), (1, 3), (1, 4), (1, 5), (1, 6), (1, 7), (1, 12), (1, 13), (1, 14), (1, 15), (8, 23), (9, 0), (9, 1), (9, 2), (9, 3), (5, 20), (5, 21), (5, 22), (5, 23), (6, 0), (6, 1), (10, 0), (10, 1), (10, 2), (10, 3), (10, 4), (10, 5), (10, 6), (10, 7), (10, 8), (10, 9), (10, 10), (10, 11), (10, 12), (10, 13), (10, 14), (10, 15), (10, 16), (10, 17), (10, 18), (10, 19), (10, 20), (10, 21), (10, 22), (10, 23), (10, 24), (10, 25), (10, 26), (10, 27), (10, 28), (10, 29), (10, 30), (10, 31), (10, 32), (10, 33), (10, 34), (10, 35), (10, 36), (10, 37), (10, 38), (10, 39)] rfl (by decide +kernel)
set_option maxRecDepth 20000 in
theorem gX12_readLine_X12_readMarks : GoodIn wsX12_readLine (wsV RX12 325 RX12 yX12_readMarks wsX12_readMarks) := goodIn_app (goodIn_of _ (by decide +kernel)) ggX12_readLine_X12_readMarks
set_option maxRecDepth 20000 in
theorem ggX12_readLine_X12_readRemarks : GoodIn wsX12_readLine wsX12_readRemarks := goodIn_r2 cbX12_readLine_f _ [(9, 7), (1, 0), (1, 6), (8, 18), (9, 8), (1, 7), (1, 1), (1, 2), (1, 3), (1, 4), (1, 5), (1, 12), (1, 13), (1, 14), (1, 15), (5, 23), (6, 0), (6, 1), (10, 0), (10, 1), (10, 2), (10, 3), (10, 4), (10, 5), (10, 6), (10, 7), (10, 8), (10, 9), (10, 10), (10, 11), (10, 12), (10, 13), (10, 14), (10, 15), (10, 16), (10, 17), (10, 18), (10, 19), (10, 20), (10, 21), (10, 22), (10, 23), (10, 24), (10, 25), (10, 26), (10, 27), (10, 28), (10, 29), (10, 30), (10, 31), (10, 32), (10, 33), (10, 34), (10, 35), (10, 36), (10, 37), (10, 38), (10, 39)] rfl (by decide +kernel)
set_option maxRecDepth 20000 in
theorem gX12_readLine_X12_readRemarks : GoodIn wsX12_readLine (wsV RX12 328 RX12 yX12_readRemarks wsX12_readRemarks) := goodIn_app (goodIn_of _ (by decide +kernel)) ggX12_readLine_X12_readRemarks
set_option maxRecDepth 20000 in
theorem ggX12_readLine_X12_fault : GoodIn wsX12_readLine wsX12_fault := goodIn_r2 cbX12_readLine_f _ [(6, 1)] rfl (by decide +kernel)
set_option maxRecDepth 20000 in
theorem gX12_readLine_X12_fault : GoodIn wsX12_readLine (va_wsS RX12 285 yX12_fault wsX12_fault) := goodIn_app (goodIn_of _ (by decide +kernel)) ggX12_readLine_X12_fault
set_option maxRecDepth 20000 in
theorem ggX12_readLine_X12_readLine : GoodIn wsX12_readLine wsX12_readLine := goodIn_r2 cbX12_readLine_f _ [(0, 0), (1, 0), (1, 1), (1, 2), (1, 3), (1, 4), (1, 5), (1, 6), (1, 7), (1, 8), (1, 9), (1, 10), (1, 11), (1, 12), (1, 13), (1, 14), (1, 15), (1, 16), (1, 17), (1, 18), (1, 19), (1, 20), (1, 21), (1, 22), (1, 23), (2, 0), (2, 1), (2, 2), (2, 3), (2, 4), (2, 5), (2, 6), (2, 7), (2, 8), (2, 9), (2, 10), (2, 11), (2, 12), (2, 13), (2, 14), (2, 15), (2, 16), (2, 17), (2, 18), (2, 19), (2, 20), (2, 21), (2, 22), (2, 23), (3, 0), (3, 1), (3, 2), (3, 3), (3, 4), (3, 5), (3, 6), (3, 7), (3, 8), (3, 9), (3, 10), (3, 11), (3, 12), (3, 13), (3, 14), (3, 15), (3, 16), (3, 17), (3, 18), (3, 19), (3, 20), (3, 21), (3, 22), (3, 23), (4, 0), (4, 1), (4, 2), (4, 3), (4, 4), (4, 5), (4, 6), (4, 7), (4, 8), (4, 9), (4, 10), (4, 11), (4, 12), (4, 13), (4, 14), (4, 15), (4, 16), (4, 17), (4, 18), (4, 19), (4, 20), (4, 21), (4, 22), (4, 23), (5, 0), (5, 1), (5, 2), (5, 3), (5, 4), (5, 5), (5, 6), (5, 7), (5, 8), (5, 9), (5, 10), (5, 11), (5, 12), (5, 13), (5, 14), (5, 15), (5, 16), (5, 17), (5, 18), (5, 19), (5, 20), (5, 21), (5, 22), (5, 23), (6, 0), (6, 1), (6, 2), (6, 3), (6, 4), (6, 5), (6, 6), (6, 7), (6, 8), (6, 9), (6, 10), (6, 11), (6, 12), (6, 13), (6, 14), (6, 15), (6, 16), (6, 17), (6, 18), (6, 19), (6, 20), (6, 21), (6, 22), (6, 23), (7, 0), (7, 1), (7, 2), (7, 3), (7, 4), (7, 5), (7, 6), (7, 7), (7, 8), (7, 9), (7, 10), (7, 11), (7, 12), (7, 13), (7, 14), (7, 15), (7, 16), (7, 17), (7, 18), (7, 19), (7, 20), (7, 21), (7, 22), (7, 23), (8, 0), (8, 1), (8, 2), (8, 3), (8, 4), (8, 5), (8, 6), (8, 7), (8, 8), (8, 9), (8, 10), (8, 11), (8, 12), (8, 13), (8, 14), (8, 15), (8, 16), (8, 17), (8, 18), (8, 19), (8, 20), (8, 21), (8, 22), (8, 23), (9, 0), (9, 1), (9, 2), (9, 3), (9, 4), (9, 5), (9, 6), (9, 7), (9, 8), (9, 9), (9, 10), (9, 11), (10, 0), (10, 1), (10, 2), (10, 3), (10, 4), (10, 5), (10, 6), (10, 7), (10, 8), (10, 9), (10, 10), (10, 11), (10, 12), (10, 13), (10, 14), (10, 15), (10, 16), (10, 17), (10, 18), (10, 19), (10, 20), (10, 21), (10, 22), (10, 23), (10, 24), (10, 25), (10, 26), (10, 27), (10, 28), (10, 29), (10, 30), (10, 31), (10, 32), (10, 33), (10, 34), (10, 35), (10, 36), (10, 37), (10, 38), (10, 39)] rfl (by decide +kernel)
set_option maxRecDepth 20000 in
theorem gX12_readLine_X12_readLine : GoodIn wsX12_readLine (wsV RX12 331 RX12 yX12_readLine wsX12_readLine) := goodIn_app (goodIn_of _ (by decide +kernel)) ggX12_readLine_X12_readLine
set_option maxRecDepth 20000 in
theorem ggX12_readGame_X12_blanks : GoodIn wsX12_readGame wsX12_blanks := goodIn_r2 cbX12_readGame_f _ [(1, 8), (1, 0), (1, 3), (1, 9), (13, 0), (13, 1), (13, 2), (13, 3), (13, 4), (13, 5), (13, 6), (13, 7), (13, 8), (13, 9), (13, 10), (13, 11), (13, 12), (13, 13), (13, 14), (13, 15), (13, 16), (13, 17), (13, 18), (13, 19), (13, 20), (13, 21), (13, 22), (13, 23), (13, 24), (13, 25), (13, 26), (13, 27), (13, 28), (13, 29), (13, 30), (13, 31), (13, 32), (13, 33), (13, 34), (13, 35), (13, 36), (13, 37), (13, 38), (13, 39)] rfl (by decide +kernel)
set_option maxRecDepth 20000 in
theorem gX12_readGame_X12_blanks : GoodIn wsX12_readGame (wsV RX12 273 RX12 yX12_blanks wsX12_blanks) := goodIn_app (goodIn_of _ (by decide +kernel)) ggX12_readGame_X12_blanks
set_option maxRecDepth 20000 in
theorem ggX12_readGame_X12_look : GoodIn wsX12_readGame wsX12_look := goodIn_r2 cbX12_readGame_f _ [(1, 13), (1, 0), (1, 3), (1, 9), (13, 0), (13, 1), (13, 2), (13, 3), (13, 4), (13, 5), (13, 6), (13, 7), (13, 8), (13, 9), (13, 10), (13, 11), (13, 12), (13, 13), (13, 14), (13, 15), (13, 16), (13, 17), (13, 18), (13, 19), (13, 20), (13, 21), (13, 22), (13, 23), (13, 24), (13, 25), (13, 26), (13, 27), (13, 28), (13, 29), (13, 30), (13, 31), (13, 32), (13, 33), (13, 34), (13, 35), (13, 36), (13, 37), (13, 38), (13, 39)] rfl (by decide +kernel)
set_option maxRecDepth 20000 in
theorem gX12_readGame_X12_look : GoodIn wsX12_readGame (wsV RX12 276 RX12 yX12_look wsX12_look) := goodIn_app (goodIn_of _ (by decide +kernel)) ggX12_readGame_X12_look
set_option maxRecDepth 20000 in
theorem ggX12_readGame_X12_readTag : GoodIn wsX12_readGame wsX12_readTag := goodIn_r2 cbX12_readGame_f _ [(1, 17), (1, 0), (1, 1), (1, 18), (1, 3), (1, 19), (1, 20), (1, 21), (1, 4), (1, 5), (1, 6), (1, 7), (1, 8), (1, 9), (1, 10), (1, 11), (1, 12), (1, 13), (1, 22), (1, 23), (2, 0), (2, 1), (2, 2), (2, 3), (2, 4), (2, 5), (2, 6), (2, 7), (2, 8), (2, 9), (2, 10), (2, 11), (2, 12), (2, 13), (2, 14), (2, 15), (2, 16), (2, 17), (2, 18), (2, 19), (2, 20), (2, 21), (2, 22), (2, 23), (3, 0), (3, 1), (3, 2), (3, 3), (3, 4), (3, 5), (3, 6), (3, 7), (3, 8), (3, 9), (3, 10), (3, 11), (3, 12), (3, 13), (3, 14), (3, 15), (3, 16), (3, 17), (3, 18), (3, 19), (3, 20), (3, 21), (3, 22), (3, 23), (4, 0), (4, 1), (4, 2), (4, 3), (4, 4), (4, 5), (4, 6), (4, 7), (4, 8), (4, 9), (4, 10), (4, 11), (4, 12), (4, 13), (4, 14), (4, 15), (4, 16), (4, 17), (4, 18), (4, 19), (4, 20), (4, 21), (4, 22), (4, 23), (5, 0), (5, 1), (5, 2), (5, 3), (5, 4), (5, 5), (5, 6), (5, 7), (5, 8), (5, 9), (5, 10), (5, 11), (5, 12), (5, 13), (5, 14), (5, 15), (5, 16), (5, 17), (5, 18), (5, 19), (5, 20), (5, 21), (13, 0), (13, 1), (13, 2), (13, 3), (13, 4), (13, 5), (13, 6), (13, 7), (13, 8), (13, 9), (13, 10), (13, 11), (13, 12), (13, 13), (13, 14), (13, 15), (13, 16), (13, 17), (13, 18), (13, 19), (13, 20), (13, 21), (13, 22), (13, 23), (13, 24), (13, 25), (13, 26), (13, 27), (13, 28), (13, 29), (13, 30), (13, 31), (13, 32), (13, 33), (13, 34), (13, 35), (13, 36), (13, 37), (13, 38), (13, 39)] rfl (by decide +kernel)
set_option maxRecDepth 20000 in
theorem gX12_readGame_X12_readTag : GoodIn wsX12_readGame (wsV RX12 334 RX12 yX12_readTag wsX12_readTag) := goodIn_app (goodIn_of _ (by decide +kernel)) ggX12_readGame_X12_readTag
set_option maxRecDepth 20000 in
theorem ggX12_readGame_X12_readRemarks : GoodIn wsX12_readGame wsX12_readRemarks := goodIn_r2 cbX12_readGame_f _ [(6, 1), (1, 0), (1, 3), (6, 2), (6, 3), (1, 9), (1, 4), (1, 5), (1, 6), (1, 7), (1, 8), (1, 10), (1, 11), (1, 12), (1, 13), (2, 4), (2, 5), (2, 6), (13, 0), (13, 1), (13, 2), (13, 3), (13, 4), (13, 5), (13, 6), (13, 7), (13, 8), (13, 9), (13, 10), (13, 11), (13, 12), (13, 13), (13, 14), (13, 15), (13, 16), (13, 17), (13, 18), (13, 19), (13, 20), (13, 21), (13, 22), (13, 23), (13, 24), (13, 25), (13, 26), (13, 27), (13, 28), (13, 29), (13, 30), (13, 31), (13, 32), (13, 33), (13, 34), (13, 35), (13, 36), (13, 37), (13, 38), (13, 39)] rfl (by decide +kernel)
set_option maxRecDepth 20000 in
theorem gX12_readGame_X12_readRemarks : GoodIn wsX12_readGame (wsV RX12 328 RX12 yX12_readRemarks wsX12_readRemarks) := goodIn_app (goodIn_of _ (by decide +kernel)) ggX12_readGame_X12_readRemarks
set_option maxRecDepth 20000 in
theorem ggX12_readGame_X12_readLine : GoodIn wsX12_readGame wsX12_readLine := goodIn_r2 cbX12_readGame_f _ [(6, 7), (1, 0), (1, 4), (1, 5), (1, 6), (1, 7), (1, 8), (1, 3), (1, 9), (6, 8), (6, 9), (6, 10), (6, 11), (1, 10), (1, 11), (1, 12), (1, 13), (6, 12), (6, 13), (6, 14), (6, 15), (6, 16), (6, 17), (6, 18), (6, 19), (6, 20), (6, 21), (2, 21), (5, 20), (5, 21), (2, 22), (3, 20), (4, 1), (2, 23), (3, 0), (6, 22), (6, 23), (7, 0), (7, 1), (7, 2), (4, 14), (4, 15), (4, 16), (7, 3), (7, 4), (7, 5), (7, 6), (7, 7), (7, 8), (7, 9), (7, 10), (5, 5), (5, 6), (5, 7), (5, 8), (5, 9), (5, 10), (5, 11), (7, 11), (7, 12), (7, 13), (7, 14), (7, 15), (7, 16), (7, 17), (7, 18), (7, 19), (7, 20), (7, 21), (7, 22), (7, 23), (8, 0), (8, 1), (8, 2), (8, 3), (8, 4), (8, 5), (8, 6), (8, 7), (8, 8), (8, 9), (8, 10), (8, 11), (5, 1), (5, 2), (5, 3), (5, 4), (5, 12), (5, 13), (5, 14), (5, 15), (8, 12), (8, 13), (8, 14), (8, 15), (8, 16), (8, 17), (8, 18), (8, 19), (8, 20), (8, 21), (4, 17), (4, 18), (4, 19), (4, 20), (4, 21), (4, 22), (4, 23), (5, 0), (8, 22), (8, 23), (9, 0), (9, 1), (9, 2), (9, 3), (9, 4), (9, 5), (2, 1), (2, 2), (2, 3), (2, 4), (2, 5), (2, 6), (9, 6), (9, 7), (9, 8), (9, 9), (9, 10), (1, 22), (1, 23), (2, 0), (9, 11), (9, 12), (9, 13), (9, 14), (9, 15), (9, 16), (9, 17), (9, 18), (9, 19), (9, 20), (9, 21), (9, 22), (9, 23), (10, 0), (10, 1), (10, 2), (10, 3), (10, 4), (10, 5), (10, 6), (10, 7), (10, 8), (10, 9), (10, 10), (10, 11), (10, 12), (10, 13), (10, 14), (10, 15), (10, 16), (10, 17), (10, 18), (10, 19), (10, 20), (10, 21), (10, 22), (10, 23), (11, 0), (11, 1), (11, 2), (11, 3), (11, 4), (11, 5), (11, 6), (11, 7), (11, 8), (11, 9), (11, 10), (11, 11), (11, 12), (11, 13), (11, 14), (11, 15), (11, 16), (11, 17), (11, 18), (6, 2), (11, 19), (11, 20), (11, 21), (11, 22), (11, 23), (12, 0), (12, 1), (12, 2), (12, 3), (5, 22), (5, 23), (6, 0), (6, 1), (6, 3), (6, 4), (6, 5), (6, 6), (13, 0), (13, 1), (13, 2), (13, 3), (13, 4), (13, 5), (13, 6), (13, 7), (13, 8), (13, 9), (13, 10), (13, 11), (13, 12), (13, 13), (13, 14), (13, 15), (13, 16), (13, 17), (13, 18), (13, 19), (13, 20), (13, 21), (13, 22), (13, 23), (13, 24), (13, 25), (13, 26), (13, 27), (13, 28), (13, 29), (13, 30), (13, 31), (13, 32), (13, 33), (13, 34), (13, 35), (13, 36), (13, 37), (13, 38), (13, 39)] rfl (by decide +kernel)
set_option maxRecDepth 20000 in
theorem gX12_readGame_X12_readLine : GoodIn wsX12_readGame (wsV RX12 331 RX12 yX12_readLine wsX12_readLine) := goodIn_app (goodIn_of _ (by decide +kernel)) ggX12_readGame_X12_readLine
set_option maxRecDepth 20000 in
theorem ggX12_readGame_X12_resultHere : GoodIn wsX12_readGame wsX12_resultHere := goodIn_r2 cbX12_readGame_f _ [(6, 11), (1, 0), (1, 3), (1, 9), (1, 10), (1, 11), (1, 12), (1, 7), (1, 13), (6, 12), (6, 13), (6, 14), (6, 15), (13, 0), (13, 1), (13, 2), (13, 3), (13, 4), (13, 5), (13, 6), (13, 7), (13, 8), (13, 9), (13, 10), (13, 11), (13, 12), (13, 13), (13, 14), (13, 15), (13, 16), (13, 17), (13, 18), (13, 19), (13, 20), (13, 21), (13, 22), (13, 23), (13, 24), (13, 25), (13, 26), (13, 27), (13, 28), (13, 29), (13, 30), (13, 31), (13, 32), (13, 33), (13, 34), (13, 35), (13, 36), (13, 37), (13, 38), (13, 39)] rfl (by decide +kernel)
set_option maxRecDepth 20000 in
theorem gX12_readGame_X12_resultHere : GoodIn wsX12_readGame (wsV RX12 316 RX12 yX12_resultHere wsX12_resultHere) := goodIn_app (goodIn_of _ (by decide +kernel)) ggX12_readGame_X12_resultHere
set_option maxRecDepth 20000 in
theorem ggX12_readGame_X12_isTag : GoodIn wsX12_readGame wsX12_isTag := goodIn_r2 cbX12_readGame_f _ [(2, 14), (1, 20), (1, 18), (13, 0), (13, 1), (13, 2), (13, 3), (13, 4), (13, 5), (13, 6), (13, 7), (13, 8), (13, 9), (13, 10), (13, 11), (13, 12), (13, 13), (13, 14), (13, 15), (13, 16), (13, 17), (13, 18), (13, 19), (13, 20), (13, 21), (13, 22), (13, 23), (13, 24), (13, 25), (13, 26), (13, 27), (13, 28), (13, 29), (13, 30), (13, 31), (13, 32), (13, 33), (13, 34), (13, 35), (13, 36), (13, 37), (13, 38), (13, 39)] rfl (by decide +kernel)
set_option maxRecDepth 20000 in
theorem gX12_readGame_X12_isTag : GoodIn wsX12_readGame (wsV RX12 292 RX12 yX12_isTag wsX12_isTag) := goodIn_app (goodIn_of _ (by decide +kernel)) ggX12_readGame_X12_isTag
set_option maxRecDepth 20000 in
theorem ggX12_readGame_X12_isResultValue : GoodIn wsX12_readGame wsX12_isResultValue := goodIn_r2 cbX12_readGame_f _ [(12, 7), (1, 21), (1, 19), (12, 8), (12, 9), (1, 7), (12, 10), (12, 11), (12, 12), (12, 13), (13, 0), (13, 1), (13, 2), (13, 3), (13, 4), (13, 5), (13, 6), (13, 7), (13, 8), (13, 9), (13, 10), (13, 11), (13, 12), (13, 13), (13, 14), (13, 15), (13, 16), (13, 17), (13, 18), (13, 19), (13, 20), (13, 21), (13, 22), (13, 23), (13, 24), (13, 25), (13, 26), (13, 27), (13, 28), (13, 29), (13, 30), (13, 31), (13, 32), (13, 33), (13, 34), (13, 35), (13, 36), (13, 37), (13, 38), (13, 39)] rfl (by decide +kernel)
set_option maxRecDepth 20000 in
theorem gX12_readGame_X12_isResultValue : GoodIn wsX12_readGame (wsV RX12 337 RX12 yX12_isResultValue wsX12_isResultValue) := goodIn_app (goodIn_of _ (by decide +kernel)) ggX12_readGame_X12_isResultValue
set_option maxRecDepth 20000 in
theorem ggX12_readGame_X12_fault : GoodIn wsX12_readGame wsX12_fault := goodIn_r _ [31] rfl (by decide +kernel)
set_option maxRecDepth 20000 in
theorem gX12_readGame_X12_fault : GoodIn wsX12_readGame (va_wsS RX12 285 yX12_fault wsX12_fault) := goodIn_app (goodIn_of _ (by decide +kernel)) ggX12_readGame_X12_fault
set_option maxRecDepth 20000 in
theorem ggX12_isResultValue_X12_resultSize : GoodIn wsX12_isResultValue wsX12_resultSize := goodIn_r _ [6] rfl (by decide +kernel)
set_option maxRecDepth 20000 in
theorem gX12_isResultValue_X12_resultSize : GoodIn wsX12_isResultValue (va_wsS RX12 340 yX12_resultSize wsX12_resultSize) := goodIn_app (goodIn_of _ (by decide +kernel)) ggX12_isResultValue_X12_resultSize
set_option maxRecDepth 20000 in
theorem ggX12_isResultValue_X12_resultSign : GoodIn wsX12_isResultValue wsX12_resultSign := goodIn_r _ [9] rfl (by decide +kernel)
set_option maxRecDepth 20000 in
theorem gX12_isResultValue_X12_resultSign : GoodIn wsX12_isResultValue (va_wsS RX12 343 yX12_resultSign wsX12_resultSign) := goodIn_app (goodIn_of _ (by decide +kernel)) ggX12_isResultValue_X12_resultSign
set_option maxRecDepth 20000 in
theorem ggX12_read_X12_clearGame : GoodIn wsX12_read wsX12_clearGame := goodIn_r2 cbX12_read_f _ [(1, 8), (1, 9), (1, 10), (1, 11), (1, 12), (1, 13), (1, 14), (1, 15), (1, 16), (1, 7), (1, 17), (1, 18), (1, 19), (1, 20), (1, 21), (14, 0), (14, 1), (14, 2), (14, 3), (14, 4), (14, 5), (14, 6), (14, 7), (14, 8), (14, 9), (14, 10), (14, 11), (14, 12), (14, 13), (14, 14), (14, 15), (14, 16), (14, 17), (14, 18), (14, 19), (14, 20), (14, 21), (14, 22), (14, 23), (14, 24), (14, 25), (14, 26), (14, 27), (14, 28), (14, 29), (14, 30), (14, 31), (14, 32), (14, 33), (14, 34), (14, 35), (14, 36), (14, 37), (14, 38), (14, 39)] rfl (by decide +kernel)
set_option maxRecDepth 20000 in
theorem gX12_read_X12_clearGame : GoodIn wsX12_read (wsV RX12 88 RX12 yX12_clearGame wsX12_clearGame) := goodIn_app (goodIn_of _ (by decide +kernel)) ggX12_read_X12_clearGame
set_option maxRecDepth 20000 in
theorem ggX12_read_X12_usual : GoodIn wsX12_read wsX12_usual := goodIn_r2 cbX12_read_f _ [(2, 1), (2, 2), (2, 3), (2, 4), (2, 5), (2, 6), (2, 7), (2, 8), (2, 9), (2, 10), (1, 7), (2, 11), (2, 12), (2, 13), (14, 0), (14, 1), (14, 2), (14, 3), (14, 4), (14, 5), (14, 6), (14, 7), (14, 8), (14, 9), (14, 10), (14, 11), (14, 12), (14, 13), (14, 14), (14, 15), (14, 16), (14, 17), (14, 18), (14, 19), (14, 20), (14, 21), (14, 22), (14, 23), (14, 24), (14, 25), (14, 26), (14, 27), (14, 28), (14, 29), (14, 30), (14, 31), (14, 32), (14, 33), (14, 34), (14, 35), (14, 36), (14, 37), (14, 38), (14, 39)] rfl (by decide +kernel)
set_option maxRecDepth 20000 in
theorem gX12_read_X12_usual : GoodIn wsX12_read (wsV RX12 92 RX12 yX12_usual wsX12_usual) := goodIn_app (goodIn_of _ (by decide +kernel)) ggX12_read_X12_usual
set_option maxRecDepth 20000 in
theorem ggX12_read_X12_readGame : GoodIn wsX12_read wsX12_readGame := goodIn_r2 cbX12_read_f _ [(2, 17), (2, 18), (1, 10), (1, 11), (1, 3), (2, 19), (2, 20), (2, 21), (1, 7), (2, 22), (2, 23), (3, 0), (3, 1), (3, 2), (3, 3), (3, 4), (3, 5), (3, 6), (3, 7), (3, 8), (3, 9), (3, 10), (3, 11), (3, 12), (3, 13), (3, 14), (3, 15), (3, 16), (3, 17), (3, 18), (3, 19), (3, 20), (3, 21), (3, 22), (3, 23), (4, 0), (4, 1), (4, 2), (4, 3), (4, 4), (4, 5), (4, 6), (4, 7), (4, 8), (4, 9), (4, 10), (2, 2), (2, 3), (2, 6), (2, 7), (4, 11), (4, 12), (4, 13), (4, 14), (4, 15), (4, 16), (4, 17), (4, 18), (4, 19), (4, 20), (4, 21), (4, 22), (4, 23), (5, 0), (5, 1), (5, 2), (5, 3), (5, 4), (5, 5), (2, 4), (5, 6), (5, 7), (5, 8), (5, 9), (2, 5), (5, 10), (5, 11), (5, 12), (5, 13), (5, 14), (5, 15), (5, 16), (5, 17), (5, 18), (5, 19), (5, 20), (5, 21), (5, 22), (5, 23), (6, 0), (6, 1), (6, 2), (6, 3), (6, 4), (6, 5), (6, 6), (6, 7), (6, 8), (6, 9), (6, 10), (6, 11), (6, 12), (6, 13), (6, 14), (6, 15), (6, 16), (6, 17), (6, 18), (6, 19), (6, 20), (6, 21), (6, 22), (6, 23), (2, 8), (2, 9), (2, 10), (2, 11), (2, 12), (2, 13), (7, 0), (7, 1), (7, 2), (7, 3), (1, 21), (7, 4), (7, 5), (7, 6), (7, 7), (7, 8), (7, 9), (7, 10), (7, 11), (7, 12), (7, 13), (7, 14), (7, 15), (7, 16), (7, 17), (7, 18), (7, 19), (7, 20), (7, 21), (1, 12), (1, 13), (7, 22), (7, 23), (8, 0), (8, 1), (8, 2), (8, 3), (8, 4), (8, 5), (8, 6), (8, 7), (8, 8), (8, 9), (8, 10), (8, 11), (8, 12), (8, 13), (8, 14), (8, 15), (8, 16), (8, 17), (8, 18), (8, 19), (8, 20), (8, 21), (8, 22), (8, 23), (9, 0), (9, 1), (9, 2), (9, 3), (9, 4), (9, 5), (9, 6), (9, 7), (9, 8), (9, 9), (9, 10), (9, 11), (9, 12), (9, 13), (9, 14), (9, 15), (9, 16), (9, 17), (9, 18), (9, 19), (9, 20), (9, 21), (9, 22), (9, 23), (10, 0), (10, 1), (10, 2), (10, 3), (10, 4), (10, 5), (10, 6), (10, 7), (10, 8), (1, 9), (10, 9), (10, 10), (10, 11), (10, 12), (10, 13), (10, 14), (10, 15), (10, 16), (10, 17), (10, 18), (10, 19), (10, 20), (10, 21), (10, 22), (10, 23), (11, 0), (11, 1), (11, 2), (11, 3), (11, 4), (11, 5), (11, 6), (11, 7), (11, 8), (11, 9), (11, 10), (11, 11), (11, 12), (11, 13), (11, 14), (11, 15), (11, 16), (11, 17), (11, 18), (11, 19), (11, 20), (11, 21), (11, 22), (11, 23), (12, 0), (12, 1), (12, 2), (12, 3), (12, 4), (12, 5), (1, 18), (1, 19), (12, 6), (12, 7), (12, 8), (12, 9), (1, 14), (1, 15), (1, 16), (1, 17), (1, 20), (12, 10), (12, 11), (12, 12), (12, 13), (12, 14), (12, 15), (12, 16), (12, 17), (12, 18), (12, 19), (12, 20), (12, 21), (12, 22), (12, 23), (13, 0), (13, 1), (13, 2), (13, 3), (13, 4), (14, 0), (14, 1), (14, 2), (14, 3), (14, 4), (14, 5), (14, 6), (14, 7), (14, 8), (14, 9), (14, 10), (14, 11), (14, 12), (14, 13), (14, 14), (14, 15), (14, 16), (14, 17), (14, 18), (14, 19), (14, 20), (14, 21), (14, 22), (14, 23), (14, 24), (14, 25), (14, 26), (14, 27), (14, 28), (14, 29), (14, 30), (14, 31), (14, 32), (14, 33), (14, 34), (14, 35), (14, 36), (14, 37), (14, 38), (14, 39)] rfl (by decide +kernel)
set_option maxRecDepth 20000 in
theorem gX12_read_X12_readGame : GoodIn wsX12_read (wsV RX12 350 RX12 yX12_readGame wsX12_readGame) := goodIn_app (goodIn_of _ (by decide +kernel)) ggX12_read_X12_readGame
set_option maxRecDepth 20000 in
theorem ggX12_read_X12_place : GoodIn wsX12_read wsX12_place := goodIn_r2 cbX12_read_f _ [(7, 20), (7, 21), (1, 12), (2, 2), (2, 12), (2, 13), (2, 3), (2, 4), (2, 5), (2, 6), (2, 7), (1, 13), (7, 22), (7, 23), (8, 0), (1, 7), (8, 1), (5, 22), (5, 23), (6, 0), (8, 2), (8, 3), (8, 4), (8, 5), (8, 6), (8, 7), (8, 8), (8, 9), (6, 13), (6, 14), (6, 15), (6, 16), (6, 17), (6, 18), (6, 19), (8, 10), (8, 11), (8, 12), (8, 13), (8, 14), (8, 15), (8, 16), (8, 17), (8, 18), (8, 19), (8, 20), (8, 21), (8, 22), (8, 23), (9, 0), (9, 1), (9, 2), (9, 3), (9, 4), (9, 5), (9, 6), (9, 7), (9, 8), (9, 9), (9, 10), (6, 9), (6, 10), (6, 11), (6, 12), (6, 20), (6, 21), (6, 22), (6, 23), (9, 11), (9, 12), (9, 13), (9, 14), (9, 15), (9, 16), (9, 17), (9, 18), (9, 19), (9, 20), (6, 1), (6, 2), (6, 3), (6, 4), (6, 5), (6, 6), (6, 7), (6, 8), (9, 21), (9, 22), (9, 23), (10, 0), (14, 0), (14, 1), (14, 2), (14, 3), (14, 4), (14, 5), (14, 6), (14, 7), (14, 8), (14, 9), (14, 10), (14, 11), (14, 12), (14, 13), (14, 14), (14, 15), (14, 16), (14, 17), (14, 18), (14, 19), (14, 20), (14, 21), (14, 22), (14, 23), (14, 24), (14, 25), (14, 26), (14, 27), (14, 28), (14, 29), (14, 30), (14, 31), (14, 32), (14, 33), (14, 34), (14, 35), (14, 36), (14, 37), (14, 38), (14, 39)] rfl (by decide +kernel)
set_option maxRecDepth 20000 in
theorem gX12_read_X12_place : GoodIn wsX12_read (wsV RX12 95 RX12 yX12_place wsX12_place) := goodIn_app (goodIn_of _ (by decide +kernel)) ggX12_read_X12_place
set_option maxRecDepth 20000 in
theorem ggX12_find_X12_understood : GoodIn wsX12_find wsX12_understood := goodIn_r2 cbX12_find_f _ [(1, 6), (1, 7), (1, 8), (1, 9), (1, 10), (1, 11), (1, 5), (1, 12), (1, 13), (1, 14), (1, 15), (1, 16), (1, 17), (1, 18), (1, 19), (1, 20), (1, 21), (1, 22), (1, 23), (2, 0), (2, 1), (2, 2), (2, 3), (2, 4), (2, 5), (2, 6), (2, 7), (2, 8), (2, 9), (2, 10), (2, 11), (2, 12), (2, 13), (2, 14), (2, 15), (2, 16), (2, 17), (2, 18), (2, 19), (2, 20), (2, 21), (2, 22), (2, 23), (3, 0), (3, 1), (3, 2), (3, 3), (3, 4), (3, 5), (3, 6), (3, 7), (3, 8), (3, 9), (3, 10), (3, 11), (3, 12), (3, 13), (3, 14), (3, 15), (3, 16), (3, 17), (3, 18), (3, 19), (3, 20), (3, 21), (3, 22), (3, 23), (4, 0), (4, 1), (4, 2), (4, 3), (4, 4), (4, 5), (4, 6), (4, 7), (4, 8), (4, 9), (4, 10), (4, 11), (4, 12), (4, 13), (4, 14), (4, 15), (4, 16), (4, 17), (4, 18), (4, 19), (4, 20), (4, 21), (4, 22), (4, 23), (5, 0), (5, 1), (5, 2), (5, 3), (5, 4), (5, 5), (5, 6), (5, 7), (5, 8), (5, 9), (5, 10), (5, 11), (5, 12), (5, 13), (5, 14), (5, 15), (5, 16), (5, 17), (5, 18), (5, 19), (5, 20), (5, 21), (5, 22), (5, 23), (6, 0), (6, 1), (6, 2), (6, 3), (6, 4), (6, 5), (6, 6), (6, 7), (6, 8), (6, 9), (6, 10), (6, 11), (6, 12), (6, 13), (6, 14), (6, 15), (6, 16), (6, 17), (6, 18), (6, 19), (6, 20), (6, 21), (6, 22), (6, 23), (6, 24), (6, 25), (6, 26), (6, 27), (6, 28), (6, 29), (6, 30), (6, 31), (6, 32), (6, 33), (6, 34), (6, 35), (6, 36), (6, 37), (6, 38), (6, 39)] rfl (by decide +kernel)
set_option maxRecDepth 20000 in
theorem gX12_find_X12_understood : GoodIn wsX12_find (wsV RX12 307 RX12 yX12_understood wsX12_understood) := goodIn_app (goodIn_of _ (by decide +kernel)) ggX12_find_X12_understood
set_option maxRecDepth 20000 in
theorem ggX12_sayNumber_X12_ink : GoodIn wsX12_sayNumber wsX12_ink := goodIn_r _ [5, 6, 7, 8, 9, 10, 11, 12, 13, 14, 15, 16, 17, 18, 19, 20, 21, 22, 23, 24, 25, 26, 27, 28, 29, 30, 31, 32, 33, 34, 35, 36, 37, 38, 39, 40, 41, 42, 43, 44, 45, 46, 47] rfl (by decide +kernel)
set_option maxRecDepth 20000 in
theorem gX12_sayNumber_X12_ink : GoodIn wsX12_sayNumber (wsV RX12 367 RX12 yX12_ink wsX12_ink) := goodIn_app (goodIn_of _ (by decide +kernel)) ggX12_sayNumber_X12_ink
set_option maxRecDepth 20000 in
theorem ggX12_sayRemark_X12_ink : GoodIn wsX12_sayRemark wsX12_ink := goodIn_r _ [7, 8, 9, 10, 11, 12, 13, 14, 15, 16, 17, 18, 19, 20, 21, 22, 23, 24, 25, 26, 27, 28, 29, 30, 31, 32, 33, 34, 35, 36, 37, 38, 39, 40, 41, 42, 43, 44, 45, 46, 47, 48, 49] rfl (by decide +kernel)
set_option maxRecDepth 20000 in
theorem gX12_sayRemark_X12_ink : GoodIn wsX12_sayRemark (wsV RX12 367 RX12 yX12_ink wsX12_ink) := goodIn_app (goodIn_of _ (by decide +kernel)) ggX12_sayRemark_X12_ink
set_option maxRecDepth 20000 in
theorem ggX12_sayMove_X12_place : GoodIn wsX12_sayMove wsX12_place := goodIn_r2 cbX12_sayMove_f _ [(1, 14), (1, 15), (1, 1), (1, 16), (1, 17), (1, 18), (1, 2), (1, 19), (1, 20), (1, 21), (1, 3), (1, 4), (1, 22), (1, 23), (2, 0), (1, 13), (2, 1), (2, 2), (2, 3), (2, 4), (2, 5), (2, 6), (2, 7), (2, 8), (2, 9), (2, 10), (2, 11), (2, 12), (2, 13), (2, 14), (2, 15), (2, 16), (2, 17), (2, 18), (2, 19), (2, 20), (2, 21), (2, 22), (2, 23), (3, 0), (3, 1), (3, 2), (3, 3), (3, 4), (3, 5), (3, 6), (3, 7), (3, 8), (3, 9), (3, 10), (3, 11), (3, 12), (3, 13), (3, 14), (3, 15), (3, 16), (3, 17), (3, 18), (3, 19), (3, 20), (3, 21), (3, 22), (3, 23), (4, 0), (4, 1), (4, 2), (4, 3), (4, 4), (4, 5), (4, 6), (4, 7), (4, 8), (4, 9), (4, 10), (4, 11), (4, 12), (4, 13), (4, 14), (4, 15), (4, 16), (4, 17), (4, 18), (4, 19), (4, 20), (4, 21), (4, 22), (4, 23), (5, 0), (5, 1), (5, 2), (8, 0), (8, 1), (8, 2), (8, 3), (8, 4), (8, 5), (8, 6), (8, 7), (8, 8), (8, 9), (8, 10), (8, 11), (8, 12), (8, 13), (8, 14), (8, 15), (8, 16), (8, 17), (8, 18), (8, 19), (8, 20), (8, 21), (8, 22), (8, 23), (8, 24), (8, 25), (8, 26), (8, 27), (8, 28), (8, 29), (8, 30), (8, 31), (8, 32), (8, 33), (8, 34), (8, 35), (8, 36), (8, 37), (8, 38), (8, 39)] rfl (by decide +kernel)
set_option maxRecDepth 20000 in
theorem gX12_sayMove_X12_place : GoodIn wsX12_sayMove (wsV RX12 95 RX12 yX12_place wsX12_place) := goodIn_app (goodIn_of _ (by decide +kernel)) ggX12_sayMove_X12_place
set_option maxRecDepth 20000 in
theorem ggX12_sayMove_X12_sayNumber : GoodIn wsX12_sayMove wsX12_sayNumber := goodIn_r2 cbX12_sayMove_f _ [(5, 6), (5, 7), (5, 8), (5, 9), (1, 13), (5, 10), (5, 11), (5, 12), (8, 0), (8, 1), (8, 2), (8, 3), (8, 4), (8, 5), (8, 6), (8, 7), (8, 8), (8, 9), (8, 10), (8, 11), (8, 12), (8, 13), (8, 14), (8, 15), (8, 16), (8, 17), (8, 18), (8, 19), (8, 20), (8, 21), (8, 22), (8, 23), (8, 24), (8, 25), (8, 26), (8, 27), (8, 28), (8, 29), (8, 30), (8, 31), (8, 32), (8, 33), (8, 34), (8, 35), (8, 36), (8, 37), (8, 38), (8, 39)] rfl (by decide +kernel)
set_option maxRecDepth 20000 in
theorem gX12_sayMove_X12_sayNumber : GoodIn wsX12_sayMove (wsV RX12 370 RX12 yX12_sayNumber wsX12_sayNumber) := goodIn_app (goodIn_of _ (by decide +kernel)) ggX12_sayMove_X12_sayNumber
set_option maxRecDepth 20000 in
theorem ggX12_sayMove_X12_ink : GoodIn wsX12_sayMove wsX12_ink := goodIn_r2 cbX12_sayMove_f _ [(5, 10), (5, 11), (5, 12), (8, 0), (8, 1), (8, 2), (8, 3), (8, 4), (8, 5), (8, 6), (8, 7), (8, 8), (8, 9), (8, 10), (8, 11), (8, 12), (8, 13), (8, 14), (8, 15), (8, 16), (8, 17), (8, 18), (8, 19), (8, 20), (8, 21), (8, 22), (8, 23), (8, 24), (8, 25), (8, 26), (8, 27), (8, 28), (8, 29), (8, 30), (8, 31), (8, 32), (8, 33), (8, 34), (8, 35), (8, 36), (8, 37), (8, 38), (8, 39)] rfl (by decide +kernel)
set_option maxRecDepth 20000 in
theorem gX12_sayMove_X12_ink : GoodIn wsX12_sayMove (wsV RX12 367 RX12 yX12_ink wsX12_ink) := goodIn_app (goodIn_of _ (by decide +kernel)) ggX12_sayMove_X12_ink
set_option maxRecDepth 20000 in
theorem ggX12_sayMove_X12_spellWhole : GoodIn wsX12_sayMove wsX12_spellWhole := goodIn_r2 cbX12_sayMove_f _ [(5, 16), (5, 17), (5, 18), (5, 19), (1, 13), (5, 20), (1, 16), (3, 0), (3, 1), (2, 2), (2, 3), (2, 4), (2, 5), (2, 6), (2, 7), (2, 8), (5, 21), (5, 22), (5, 23), (6, 0), (1, 5), (6, 1), (6, 2), (6, 3), (6, 4), (6, 5), (6, 6), (6, 7), (6, 8), (1, 6), (6, 9), (6, 10), (6, 11), (6, 12), (6, 13), (6, 14), (6, 15), (6, 16), (6, 17), (6, 18), (6, 19), (1, 2), (4, 9), (4, 10), (4, 11), (4, 12), (4, 13), (4, 14), (1, 19), (1, 20), (1, 21), (1, 3), (1, 22), (1, 23), (2, 0), (2, 1), (2, 9), (2, 10), (2, 11), (2, 12), (2, 13), (2, 14), (2, 15), (2, 16), (2, 17), (2, 18), (2, 19), (4, 15), (4, 16), (4, 17), (4, 18), (4, 19), (4, 20), (4, 21), (4, 22), (3, 21), (3, 22), (3, 23), (4, 0), (4, 1), (4, 2), (4, 3), (4, 4), (3, 5), (3, 6), (3, 7), (3, 8), (3, 2), (3, 3), (3, 4), (3, 9), (3, 10), (3, 11), (3, 12), (3, 13), (3, 14), (3, 15), (3, 16), (3, 17), (3, 18), (3, 19), (3, 20), (6, 20), (6, 21), (6, 22), (6, 23), (4, 23), (5, 0), (5, 1), (5, 2), (8, 0), (8, 1), (8, 2), (8, 3), (8, 4), (8, 5), (8, 6), (8, 7), (8, 8), (8, 9), (8, 10), (8, 11), (8, 12), (8, 13), (8, 14), (8, 15), (8, 16), (8, 17), (8, 18), (8, 19), (8, 20), (8, 21), (8, 22), (8, 23), (8, 24), (8, 25), (8, 26), (8, 27), (8, 28), (8, 29), (8, 30), (8, 31), (8, 32), (8, 33), (8, 34), (8, 35), (8, 36), (8, 37), (8, 38), (8, 39)] rfl (by decide +kernel)
set_option maxRecDepth 20000 in
theorem gX12_sayMove_X12_spellWhole : GoodIn wsX12_sayMove (wsV RX12 373 RX12 yX12_spellWhole wsX12_spellWhole) := goodIn_app (goodIn_of _ (by decide +kernel)) ggX12_sayMove_X12_spellWhole
set_option maxRecDepth 20000 in
theorem ggX12_sayMove_X12_sayRemark : GoodIn wsX12_sayMove wsX12_sayRemark := goodIn_r2 cbX12_sayMove_f _ [(7, 3), (1, 9), (7, 4), (5, 7), (5, 8), (5, 9), (1, 13), (5, 10), (5, 11), (5, 12), (8, 0), (8, 1), (8, 2), (8, 3), (8, 4), (8, 5), (8, 6), (8, 7), (8, 8), (8, 9), (8, 10), (8, 11), (8, 12), (8, 13), (8, 14), (8, 15), (8, 16), (8, 17), (8, 18), (8, 19), (8, 20), (8, 21), (8, 22), (8, 23), (8, 24), (8, 25), (8, 26), (8, 27), (8, 28), (8, 29), (8, 30), (8, 31), (8, 32), (8, 33), (8, 34), (8, 35), (8, 36), (8, 37), (8, 38), (8, 39)] rfl (by decide +kernel)
set_option maxRecDepth 20000 in
theorem gX12_sayMove_X12_sayRemark : GoodIn wsX12_sayMove (wsV RX12 376 RX12 yX12_sayRemark wsX12_sayRemark) := goodIn_app (goodIn_of _ (by decide +kernel)) ggX12_sayMove_X12_sayRemark
set_option maxRecDepth 20000 in
theorem ggX12_sayLine_X12_sayMove : GoodIn wsX12_sayLine wsX12_sayMove := goodIn_r2 cbX12_sayLine_f _ [(1, 8), (1, 0), (1, 9), (1, 10), (1, 11), (1, 12), (1, 13), (1, 14), (1, 15), (1, 16), (1, 1), (1, 17), (1, 18), (1, 19), (1, 7), (1, 20), (1, 21), (1, 22), (1, 23), (2, 0), (2, 1), (2, 2), (2, 3), (2, 4), (2, 5), (2, 6), (2, 7), (2, 8), (2, 9), (2, 10), (2, 11), (2, 12), (2, 13), (2, 14), (2, 15), (2, 16), (2, 17), (2, 18), (2, 19), (2, 20), (2, 21), (2, 22), (2, 23), (3, 0), (3, 1), (3, 2), (3, 3), (3, 4), (3, 5), (3, 6), (3, 7), (3, 8), (3, 9), (3, 10), (3, 11), (3, 12), (3, 13), (3, 14), (3, 15), (3, 16), (3, 17), (3, 18), (3, 19), (3, 20), (3, 21), (3, 22), (3, 23), (4, 0), (4, 1), (4, 2), (4, 3), (4, 4), (4, 5), (4, 6), (4, 7), (4, 8), (4, 9), (4, 10), (4, 11), (4, 12), (4, 13), (4, 14), (4, 15), (4, 16), (4, 17), (4, 18), (4, 19), (4, 20), (4, 21), (4, 22), (4, 23), (5, 0), (5, 1), (5, 2), (5, 3), (5, 4), (5, 5), (5, 6), (5, 7), (5, 8), (5, 9), (5, 10), (5, 11), (5, 12), (5, 13), (5, 14), (5, 15), (5, 16), (5, 17), (5, 18), (5, 19), (5, 20), (5, 21), (5, 22), (5, 23), (6, 0), (6, 1), (6, 2), (6, 3), (6, 4), (6, 5), (6, 6), (6, 7), (6, 8), (6, 9), (6, 10), (6, 11), (6, 12), (6, 13), (6, 14), (6, 15), (6, 16), (6, 17), (6, 18), (6, 19), (6, 20), (6, 21), (6, 22), (6, 23), (7, 0), (7, 1), (7, 2), (7, 3), (7, 4), (7, 5), (7, 6), (7, 7), (7, 8), (7, 9), (7, 10), (8, 0), (8, 1), (8, 2), (8, 3), (8, 4), (8, 5), (8, 6), (8, 7), (8, 8), (8, 9), (8, 10), (8, 11), (8, 12), (8, 13), (8, 14), (8, 15), (8, 16), (8, 17), (8, 18), (8, 19), (8, 20), (8, 21), (8, 22), (8, 23), (8, 24), (8, 25), (8, 26), (8, 27), (8, 28), (8, 29), (8, 30), (8, 31), (8, 32), (8, 33), (8, 34), (8, 35), (8, 36), (8, 37), (8, 38), (8, 39)] rfl (by decide +kernel)
set_option maxRecDepth 20000 in
theorem gX12_sayLine_X12_sayMove : GoodIn wsX12_sayLine (wsV RX12 379 RX12 yX12_sayMove wsX12_sayMove) := goodIn_app (goodIn_of _ (by decide +kernel)) ggX12_sayLine_X12_sayMove
set_option maxRecDepth 20000 in
theorem ggX12_sayLine_X12_ink : GoodIn wsX12_sayLine wsX12_ink := goodIn_r2 cbX12_sayLine_f _ [(5, 16), (5, 17), (5, 18), (8, 0), (8, 1), (8, 2), (8, 3), (8, 4), (8, 5), (8, 6), (8, 7), (8, 8), (8, 9), (8, 10), (8, 11), (8, 12), (8, 13), (8, 14), (8, 15), (8, 16), (8, 17), (8, 18), (8, 19), (8, 20), (8, 21), (8, 22), (8, 23), (8, 24), (8, 25), (8, 26), (8, 27), (8, 28), (8, 29), (8, 30), (8, 31), (8, 32), (8, 33), (8, 34), (8, 35), (8, 36), (8, 37), (8, 38), (8, 39)] rfl (by decide +kernel)
set_option maxRecDepth 20000 in
theorem gX12_sayLine_X12_ink : GoodIn wsX12_sayLine (wsV RX12 367 RX12 yX12_ink wsX12_ink) := goodIn_app (goodIn_of _ (by decide +kernel)) ggX12_sayLine_X12_ink
set_option maxRecDepth 20000 in
theorem ggX12_sayLine_X12_sayLine : GoodIn wsX12_sayLine wsX12_sayLine := goodIn_r2 cbX12_sayLine_f _ [(0, 0), (1, 0), (1, 1), (1, 2), (1, 3), (1, 4), (1, 5), (1, 6), (1, 7), (1, 8), (1, 9), (1, 10), (1, 11), (1, 12), (1, 13), (1, 14), (1, 15), (1, 16), (1, 17), (1, 18), (1, 19), (1, 20), (1, 21), (1, 22), (1, 23), (2, 0), (2, 1), (2, 2), (2, 3), (2, 4), (2, 5), (2, 6), (2, 7), (2, 8), (2, 9), (2, 10), (2, 11), (2, 12), (2, 13), (2, 14), (2, 15), (2, 16), (2, 17), (2, 18), (2, 19), (2, 20), (2, 21), (2, 22), (2, 23), (3, 0), (3, 1), (3, 2), (3, 3), (3, 4), (3, 5), (3, 6), (3, 7), (3, 8), (3, 9), (3, 10), (3, 11), (3, 12), (3, 13), (3, 14), (3, 15), (3, 16), (3, 17), (3, 18), (3, 19), (3, 20), (3, 21), (3, 22), (3, 23), (4, 0), (4, 1), (4, 2), (4, 3), (4, 4), (4, 5), (4, 6), (4, 7), (4, 8), (4, 9), (4, 10), (4, 11), (4, 12), (4, 13), (4, 14), (4, 15), (4, 16), (4, 17), (4, 18), (4, 19), (4, 20), (4, 21), (4, 22), (4, 23), (5, 0), (5, 1), (5, 2), (5, 3), (5, 4), (5, 5), (5, 6), (5, 7), (5, 8), (5, 9), (5, 10), (5, 11), (5, 12), (5, 13), (5, 14), (5, 15), (5, 16), (5, 17), (5, 18), (5, 19), (5, 20), (5, 21), (5, 22), (5, 23), (6, 0), (6, 1), (6, 2), (6, 3), (6, 4), (6, 5), (6, 6), (6, 7), (6, 8), (6, 9), (6, 10), (6, 11), (6, 12), (6, 13), (6, 14), (6, 15), (6, 16), (6, 17), (6, 18), (6, 19), (6, 20), (6, 21), (6, 22), (6, 23), (7, 0), (7, 1), (7, 2), (7, 3), (7, 4), (7, 5), (7, 6), (7, 7), (7, 8), (7, 9), (7, 10), (7, 11), (7, 12), (7, 13), (8, 0), (8, 1), (8, 2), (8, 3), (8, 4), (8, 5), (8, 6), (8, 7), (8, 8), (8, 9), (8, 10), (8, 11), (8, 12), (8, 13), (8, 14), (8, 15), (8, 16), (8, 17), (8, 18), (8, 19), (8, 20), (8, 21), (8, 22), (8, 23), (8, 24), (8, 25), (8, 26), (8, 27), (8, 28), (8, 29), (8, 30), (8, 31), (8, 32), (8, 33), (8, 34), (8, 35), (8, 36), (8, 37), (8, 38), (8, 39)] rfl (by decide +kernel)
set_option maxRecDepth 20000 in
theorem gX12_sayLine_X12_sayLine : GoodIn wsX12_sayLine (wsV RX12 383 RX12 yX12_sayLine wsX12_sayLine) := goodIn_app (goodIn_of _ (by decide +kernel)) ggX12_sayLine_X12_sayLine
set_option maxRecDepth 20000 in
theorem ggX12_write_X12_ink : GoodIn wsX12_write wsX12_ink := goodIn_r2 cbX12_write_f _ [(1, 16), (1, 17), (1, 1), (9, 0), (9, 1), (9, 2), (9, 3), (9, 4), (9, 5), (9, 6), (9, 7), (9, 8), (9, 9), (9, 10), (9, 11), (9, 12), (9, 13), (9, 14), (9, 15), (9, 16), (9, 17), (9, 18), (9, 19), (9, 20), (9, 21), (9, 22), (9, 23), (9, 24), (9, 25), (9, 26), (9, 27), (9, 28), (9, 29), (9, 30), (9, 31), (9, 32), (9, 33), (9, 34), (9, 35), (9, 36), (9, 37), (9, 38), (9, 39)] rfl (by decide +kernel)
set_option maxRecDepth 20000 in
theorem gX12_write_X12_ink : GoodIn wsX12_write (wsV RX12 367 RX12 yX12_ink wsX12_ink) := goodIn_app (goodIn_of _ (by decide +kernel)) ggX12_write_X12_ink
set_option maxRecDepth 20000 in
theorem ggX12_write_X12_sayRemark : GoodIn wsX12_write wsX12_sayRemark := goodIn_r2 cbX12_write_f _ [(1, 21), (1, 8), (1, 22), (1, 12), (1, 13), (1, 14), (1, 15), (1, 16), (1, 17), (1, 1), (9, 0), (9, 1), (9, 2), (9, 3), (9, 4), (9, 5), (9, 6), (9, 7), (9, 8), (9, 9), (9, 10), (9, 11), (9, 12), (9, 13), (9, 14), (9, 15), (9, 16), (9, 17), (9, 18), (9, 19), (9, 20), (9, 21), (9, 22), (9, 23), (9, 24), (9, 25), (9, 26), (9, 27), (9, 28), (9, 29), (9, 30), (9, 31), (9, 32), (9, 33), (9, 34), (9, 35), (9, 36), (9, 37), (9, 38), (9, 39)] rfl (by decide +kernel)
set_option maxRecDepth 20000 in
theorem gX12_write_X12_sayRemark : GoodIn wsX12_write (wsV RX12 376 RX12 yX12_sayRemark wsX12_sayRemark) := goodIn_app (goodIn_of _ (by decide +kernel)) ggX12_write_X12_sayRemark
set_option maxRecDepth 20000 in
theorem ggX12_write_X12_sayLine : GoodIn wsX12_write wsX12_sayLine := goodIn_r2 cbX12_write_f _ [(2, 2), (1, 3), (1, 8), (2, 3), (1, 9), (2, 4), (2, 5), (2, 6), (1, 15), (2, 7), (2, 8), (2, 9), (2, 10), (2, 11), (2, 12), (2, 13), (2, 14), (2, 15), (2, 16), (2, 17), (2, 18), (2, 19), (2, 20), (2, 21), (2, 22), (2, 23), (3, 0), (3, 1), (3, 2), (3, 3), (3, 4), (3, 5), (3, 6), (3, 7), (3, 8), (3, 9), (3, 10), (3, 11), (3, 12), (3, 13), (3, 14), (3, 15), (3, 16), (3, 17), (3, 18), (3, 19), (3, 20), (3, 21), (3, 22), (3, 23), (4, 0), (4, 1), (4, 2), (4, 3), (4, 4), (4, 5), (4, 6), (4, 7), (4, 8), (4, 9), (4, 10), (4, 11), (4, 12), (4, 13), (4, 14), (4, 15), (4, 16), (4, 17), (4, 18), (4, 19), (4, 20), (4, 21), (4, 22), (4, 23), (5, 0), (5, 1), (5, 2), (5, 3), (5, 4), (5, 5), (5, 6), (5, 7), (5, 8), (5, 9), (5, 10), (5, 11), (5, 12), (5, 13), (5, 14), (5, 15), (5, 16), (5, 17), (5, 18), (5, 19), (5, 20), (5, 21), (5, 22), (5, 23), (6, 0), (6, 1), (6, 2), (6, 3), (6, 4), (6, 5), (6, 6), (6, 7), (6, 8), (6, 9), (6, 10), (6, 11), (1, 12), (1, 13), (1, 14), (1, 16), (1, 17), (1, 1), (6, 12), (6, 13), (6, 14), (6, 15), (6, 16), (6, 17), (6, 18), (6, 19), (6, 20), (6, 21), (6, 22), (6, 23), (7, 0), (7, 1), (7, 2), (7, 3), (7, 4), (7, 5), (7, 6), (7, 7), (7, 8), (7, 9), (7, 10), (7, 11), (7, 12), (7, 13), (7, 14), (7, 15), (7, 16), (7, 17), (7, 18), (7, 19), (7, 20), (7, 21), (7, 22), (1, 18), (1, 19), (1, 20), (1, 21), (1, 22), (1, 23), (2, 0), (2, 1), (9, 0), (9, 1), (9, 2), (9, 3), (9, 4), (9, 5), (9, 6), (9, 7), (9, 8), (9, 9), (9, 10), (9, 11), (9, 12), (9, 13), (9, 14), (9, 15), (9, 16), (9, 17), (9, 18), (9, 19), (9, 20), (9, 21), (9, 22), (9, 23), (9, 24), (9, 25), (9, 26), (9, 27), (9, 28), (9, 29), (9, 30), (9, 31), (9, 32), (9, 33), (9, 34), (9, 35), (9, 36), (9, 37), (9, 38), (9, 39)] rfl (by decide +kernel)
set_option maxRecDepth 20000 in
theorem gX12_write_X12_sayLine : GoodIn wsX12_write (wsV RX12 383 RX12 yX12_sayLine wsX12_sayLine) := goodIn_app (goodIn_of _ (by decide +kernel)) ggX12_write_X12_sayLine
set_option maxRecDepth 20000 in
theorem ggX12_write_X12_resultSize : GoodIn wsX12_write wsX12_resultSize := goodIn_r2 cbX12_write_f _ [(8, 1)] rfl (by decide +kernel)
set_option maxRecDepth 20000 in
theorem gX12_write_X12_resultSize : GoodIn wsX12_write (va_wsS RX12 340 yX12_resultSize wsX12_resultSize) := goodIn_app (goodIn_of _ (by decide +kernel)) ggX12_write_X12_resultSize
set_option maxRecDepth 20000 in
theorem ggX12_write_X12_resultSign : GoodIn wsX12_write wsX12_resultSign := goodIn_r2 cbX12_write_f _ [(8, 4)] rfl (by decide +kernel)
set_option maxRecDepth 20000 in
theorem gX12_write_X12_resultSign : GoodIn wsX12_write (va_wsS RX12 343 yX12_resultSign wsX12_resultSign) := goodIn_app (goodIn_of _ (by decide +kernel)) ggX12_write_X12_resultSign
set_option maxRecDepth 20000 in
theorem ggX12_write_X12_place : GoodIn wsX12_write wsX12_place := goodIn_r2 cbX12_write_f _ [(2, 19), (2, 20), (2, 8), (2, 21), (2, 22), (2, 23), (2, 9), (3, 0), (3, 1), (3, 2), (2, 10), (2, 11), (3, 3), (3, 4), (3, 5), (1, 15), (3, 6), (3, 7), (3, 8), (3, 9), (3, 10), (3, 11), (3, 12), (3, 13), (3, 14), (3, 15), (3, 16), (3, 17), (3, 18), (3, 19), (3, 20), (3, 21), (3, 22), (3, 23), (4, 0), (4, 1), (4, 2), (4, 3), (4, 4), (4, 5), (4, 6), (4, 7), (4, 8), (4, 9), (4, 10), (4, 11), (4, 12), (4, 13), (4, 14), (4, 15), (4, 16), (4, 17), (4, 18), (4, 19), (4, 20), (4, 21), (4, 22), (4, 23), (5, 0), (5, 1), (5, 2), (5, 3), (5, 4), (5, 5), (5, 6), (5, 7), (5, 8), (5, 9), (5, 10), (5, 11), (5, 12), (5, 13), (5, 14), (5, 15), (5, 16), (5, 17), (5, 18), (5, 19), (5, 20), (5, 21), (5, 22), (5, 23), (6, 0), (6, 1), (6, 2), (6, 3), (6, 4), (6, 5), (6, 6), (6, 7), (9, 0), (9, 1), (9, 2), (9, 3), (9, 4), (9, 5), (9, 6), (9, 7), (9, 8), (9, 9), (9, 10), (9, 11), (9, 12), (9, 13), (9, 14), (9, 15), (9, 16), (9, 17), (9, 18), (9, 19), (9, 20), (9, 21), (9, 22), (9, 23), (9, 24), (9, 25), (9, 26), (9, 27), (9, 28), (9, 29), (9, 30), (9, 31), (9, 32), (9, 33), (9, 34), (9, 35), (9, 36), (9, 37), (9, 38), (9, 39)] rfl (by decide +kernel)
set_option maxRecDepth 20000 in
theorem gX12_write_X12_place : GoodIn wsX12_write (wsV RX12 95 RX12 yX12_place wsX12_place) := goodIn_app (goodIn_of _ (by decide +kernel)) ggX12_write_X12_place
set_option maxRecDepth 20000 in
theorem ggX12_signs_X12_isLegal : GoodIn wsX12_signs wsX12_isLegal := goodIn_r2 cbX12_signs_f _ [(1, 9), (1, 10), (1, 11), (6, 0), (6, 1), (6, 2), (6, 3), (6, 4), (6, 5), (6, 6), (6, 7), (6, 8), (6, 9), (6, 10), (6, 11), (6, 12), (6, 13), (6, 14), (6, 15), (6, 16), (6, 17), (6, 18), (6, 19), (6, 20), (6, 21), (6, 22), (6, 23), (6, 24), (6, 25), (6, 26), (6, 27), (6, 28), (6, 29), (6, 30), (6, 31), (6, 32), (6, 33), (6, 34), (6, 35), (6, 36), (6, 37), (6, 38), (6, 39)] rfl (by decide +kernel)
set_option maxRecDepth 20000 in
theorem gX12_signs_X12_isLegal : GoodIn wsX12_signs (wsV RX12 386 RX12 yX12_isLegal wsX12_isLegal) := goodIn_app (goodIn_of _ (by decide +kernel)) ggX12_signs_X12_isLegal
set_option maxRecDepth 20000 in
theorem ggX12_signs_X12_spellWhole : GoodIn wsX12_signs wsX12_spellWhole := goodIn_r2 cbX12_signs_f _ [(1, 15), (1, 16), (1, 17), (1, 18), (1, 8), (1, 19), (1, 20), (1, 10), (1, 11), (1, 21), (1, 22), (1, 23), (2, 0), (2, 1), (2, 2), (2, 3), (2, 4), (2, 5), (2, 6), (2, 7), (1, 1), (2, 8), (2, 9), (2, 10), (2, 11), (2, 12), (2, 13), (2, 14), (2, 15), (1, 3), (2, 16), (2, 17), (2, 18), (2, 19), (2, 20), (2, 21), (2, 22), (2, 23), (3, 0), (3, 1), (3, 2), (3, 3), (3, 4), (3, 5), (3, 6), (3, 7), (3, 8), (3, 9), (3, 10), (3, 11), (3, 12), (3, 13), (3, 14), (3, 15), (3, 16), (3, 17), (3, 18), (3, 19), (3, 20), (3, 21), (3, 22), (3, 23), (4, 0), (4, 1), (4, 2), (4, 3), (4, 4), (4, 5), (4, 6), (4, 7), (4, 8), (4, 9), (4, 10), (4, 11), (4, 12), (4, 13), (4, 14), (4, 15), (4, 16), (4, 17), (4, 18), (4, 19), (4, 20), (4, 21), (4, 22), (4, 23), (5, 0), (5, 1), (5, 2), (5, 3), (5, 4), (5, 5), (5, 6), (5, 7), (5, 8), (5, 9), (5, 10), (5, 11), (5, 12), (5, 13), (5, 14), (5, 15), (5, 16), (5, 17), (5, 18), (5, 19), (5, 20), (5, 21), (5, 22), (5, 23), (6, 0), (6, 1), (6, 2), (6, 3), (6, 4), (6, 5), (6, 6), (6, 7), (6, 8), (6, 9), (6, 10), (6, 11), (6, 12), (6, 13), (6, 14), (6, 15), (6, 16), (6, 17), (6, 18), (6, 19), (6, 20), (6, 21), (6, 22), (6, 23), (6, 24), (6, 25), (6, 26), (6, 27), (6, 28), (6, 29), (6, 30), (6, 31), (6, 32), (6, 33), (6, 34), (6, 35), (6, 36), (6, 37), (6, 38), (6, 39)] rfl (by decide +kernel)
set_option maxRecDepth 20000 in
theorem gX12_signs_X12_spellWhole : GoodIn wsX12_signs (wsV RX12 373 RX12 yX12_spellWhole wsX12_spellWhole) := goodIn_app (goodIn_of _ (by decide +kernel)) ggX12_signs_X12_spellWhole
set_option maxRecDepth 20000 in
theorem ggX12_node_X12_isNode : GoodIn wsX12_node wsX12_isNode := goodIn_r _ [13, 14, 2, 15, 16, 17, 18, 19, 20, 21, 22, 23, 24, 25, 26, 27, 28, 29, 30, 31, 32, 33, 34, 35, 36, 37, 38, 39, 40, 41, 42, 43, 44, 45, 46, 47, 48, 49, 50, 51, 52, 53, 54] rfl (by decide +kernel)
set_option maxRecDepth 20000 in
theorem gX12_node_X12_isNode : GoodIn wsX12_node (wsV RX12 389 RX12 yX12_isNode wsX12_isNode) := goodIn_app (goodIn_of _ (by decide +kernel)) ggX12_node_X12_isNode
set_option maxRecDepth 20000 in
theorem ggX12_mark_X12_isNode : GoodIn wsX12_mark wsX12_isNode := goodIn_r _ [9, 10, 2, 11, 12, 13, 14, 15, 16, 17, 18, 19, 20, 21, 22, 23, 24, 25, 26, 27, 28, 29, 30, 31, 32, 33, 34, 35, 36, 37, 38, 39, 40, 41, 42, 43, 44, 45, 46, 47, 48, 49, 50] rfl (by decide +kernel)
set_option maxRecDepth 20000 in
theorem gX12_mark_X12_isNode : GoodIn wsX12_mark (wsV RX12 389 RX12 yX12_isNode wsX12_isNode) := goodIn_app (goodIn_of _ (by decide +kernel)) ggX12_mark_X12_isNode
set_option maxRecDepth 20000 in
theorem ggX12_remark_X12_isNode : GoodIn wsX12_remark wsX12_isNode := goodIn_r _ [9, 10, 2, 11, 12, 13, 14, 15, 16, 17, 18, 19, 20, 21, 22, 23, 24, 25, 26, 27, 28, 29, 30, 31, 32, 33, 34, 35, 36, 37, 38, 39, 40, 41, 42, 43, 44, 45, 46, 47, 48, 49, 50] rfl (by decide +kernel)
set_option maxRecDepth 20000 in
theorem gX12_remark_X12_isNode : GoodIn wsX12_remark (wsV RX12 389 RX12 yX12_isNode wsX12_isNode) := goodIn_app (goodIn_of _ (by decide +kernel)) ggX12_remark_X12_isNode
set_option maxRecDepth 20000 in
theorem ggX12_go_X12_isNode : GoodIn wsX12_go wsX12_isNode := goodIn_r2 cbX12_go_f _ [(1, 7), (1, 8), (1, 2), (6, 0), (6, 1), (6, 2), (6, 3), (6, 4), (6, 5), (6, 6), (6, 7), (6, 8), (6, 9), (6, 10), (6, 11), (6, 12), (6, 13), (6, 14), (6, 15), (6, 16), (6, 17), (6, 18), (6, 19), (6, 20), (6, 21), (6, 22), (6, 23), (6, 24), (6, 25), (6, 26), (6, 27), (6, 28), (6, 29), (6, 30), (6, 31), (6, 32), (6, 33), (6, 34), (6, 35), (6, 36), (6, 37), (6, 38), (6, 39)] rfl (by decide +kernel)
set_option maxRecDepth 20000 in
theorem gX12_go_X12_isNode : GoodIn wsX12_go (wsV RX12 389 RX12 yX12_isNode wsX12_isNode) := goodIn_app (goodIn_of _ (by decide +kernel)) ggX12_go_X12_isNode
set_option maxRecDepth 20000 in
theorem ggX12_go_X12_place : GoodIn wsX12_go wsX12_place := goodIn_r2 cbX12_go_f _ [(1, 12), (1, 13), (1, 14), (1, 15), (1, 16), (1, 17), (1, 18), (1, 19), (1, 20), (1, 21), (1, 22), (1, 23), (2, 0), (2, 1), (2, 2), (1, 6), (2, 3), (2, 4), (2, 5), (2, 6), (2, 7), (2, 8), (2, 9), (2, 10), (2, 11), (2, 12), (2, 13), (2, 14), (2, 15), (2, 16), (2, 17), (2, 18), (2, 19), (2, 20), (2, 21), (2, 22), (2, 23), (3, 0), (3, 1), (3, 2), (3, 3), (3, 4), (3, 5), (3, 6), (3, 7), (3, 8), (3, 9), (3, 10), (3, 11), (3, 12), (3, 13), (3, 14), (3, 15), (3, 16), (3, 17), (3, 18), (3, 19), (3, 20), (3, 21), (3, 22), (3, 23), (4, 0), (4, 1), (4, 2), (4, 3), (4, 4), (4, 5), (4, 6), (4, 7), (4, 8), (4, 9), (4, 10), (4, 11), (4, 12), (4, 13), (4, 14), (4, 15), (4, 16), (4, 17), (4, 18), (4, 19), (4, 20), (4, 21), (4, 22), (4, 23), (5, 0), (5, 1), (5, 2), (5, 3), (5, 4), (6, 0), (6, 1), (6, 2), (6, 3), (6, 4), (6, 5), (6, 6), (6, 7), (6, 8), (6, 9), (6, 10), (6, 11), (6, 12), (6, 13), (6, 14), (6, 15), (6, 16), (6, 17), (6, 18), (6, 19), (6, 20), (6, 21), (6, 22), (6, 23), (6, 24), (6, 25), (6, 26), (6, 27), (6, 28), (6, 29), (6, 30), (6, 31), (6, 32), (6, 33), (6, 34), (6, 35), (6, 36), (6, 37), (6, 38), (6, 39)] rfl (by decide +kernel)
set_option maxRecDepth 20000 in
theorem gX12_go_X12_place : GoodIn wsX12_go (wsV RX12 95 RX12 yX12_place wsX12_place) := goodIn_app (goodIn_of _ (by decide +kernel)) ggX12_go_X12_place
set_option maxRecDepth 20000 in
theorem ggX12_add_X12_isLegal : GoodIn wsX12_add wsX12_isLegal := goodIn_r2 cbX12_add_f _ [(1, 9), (1, 10), (1, 11), (7, 0), (7, 1), (7, 2), (7, 3), (7, 4), (7, 5), (7, 6), (7, 7), (7, 8), (7, 9), (7, 10), (7, 11), (7, 12), (7, 13), (7, 14), (7, 15), (7, 16), (7, 17), (7, 18), (7, 19), (7, 20), (7, 21), (7, 22), (7, 23), (7, 24), (7, 25), (7, 26), (7, 27), (7, 28), (7, 29), (7, 30), (7, 31), (7, 32), (7, 33), (7, 34), (7, 35), (7, 36), (7, 37), (7, 38), (7, 39)] rfl (by decide +kernel)
set_option maxRecDepth 20000 in
theorem gX12_add_X12_isLegal : GoodIn wsX12_add (wsV RX12 386 RX12 yX12_isLegal wsX12_isLegal) := goodIn_app (goodIn_of _ (by decide +kernel)) ggX12_add_X12_isLegal
set_option maxRecDepth 20000 in
theorem ggX12_add_X12_childWith : GoodIn wsX12_add wsX12_childWith := goodIn_r2 cbX12_add_f _ [(1, 15), (1, 3), (1, 16), (1, 17), (7, 0), (7, 1), (7, 2), (7, 3), (7, 4), (7, 5), (7, 6), (7, 7), (7, 8), (7, 9), (7, 10), (7, 11), (7, 12), (7, 13), (7, 14), (7, 15), (7, 16), (7, 17), (7, 18), (7, 19), (7, 20), (7, 21), (7, 22), (7, 23), (7, 24), (7, 25), (7, 26), (7, 27), (7, 28), (7, 29), (7, 30), (7, 31), (7, 32), (7, 33), (7, 34), (7, 35), (7, 36), (7, 37), (7, 38), (7, 39)] rfl (by decide +kernel)
set_option maxRecDepth 20000 in
theorem gX12_add_X12_childWith : GoodIn wsX12_add (wsV RX12 310 RX12 yX12_childWith wsX12_childWith) := goodIn_app (goodIn_of _ (by decide +kernel)) ggX12_add_X12_childWith
set_option maxRecDepth 20000 in
theorem ggX12_add_X12_deepOf : GoodIn wsX12_add wsX12_deepOf := goodIn_r2 cbX12_add_f _ [(1, 21), (1, 22), (1, 23), (2, 0), (2, 1), (1, 8), (2, 2), (1, 3), (7, 0), (7, 1), (7, 2), (7, 3), (7, 4), (7, 5), (7, 6), (7, 7), (7, 8), (7, 9), (7, 10), (7, 11), (7, 12), (7, 13), (7, 14), (7, 15), (7, 16), (7, 17), (7, 18), (7, 19), (7, 20), (7, 21), (7, 22), (7, 23), (7, 24), (7, 25), (7, 26), (7, 27), (7, 28), (7, 29), (7, 30), (7, 31), (7, 32), (7, 33), (7, 34), (7, 35), (7, 36), (7, 37), (7, 38), (7, 39)] rfl (by decide +kernel)
set_option maxRecDepth 20000 in
theorem gX12_add_X12_deepOf : GoodIn wsX12_add (wsV RX12 392 RX12 yX12_deepOf wsX12_deepOf) := goodIn_app (goodIn_of _ (by decide +kernel)) ggX12_add_X12_deepOf
set_option maxRecDepth 20000 in
theorem ggX12_add_X12_append : GoodIn wsX12_add wsX12_append := goodIn_r2 cbX12_add_f _ [(2, 6), (1, 4), (1, 22), (1, 16), (1, 3), (1, 17), (2, 7), (2, 8), (2, 9), (1, 8), (2, 10), (2, 11), (2, 12), (7, 0), (7, 1), (7, 2), (7, 3), (7, 4), (7, 5), (7, 6), (7, 7), (7, 8), (7, 9), (7, 10), (7, 11), (7, 12), (7, 13), (7, 14), (7, 15), (7, 16), (7, 17), (7, 18), (7, 19), (7, 20), (7, 21), (7, 22), (7, 23), (7, 24), (7, 25), (7, 26), (7, 27), (7, 28), (7, 29), (7, 30), (7, 31), (7, 32), (7, 33), (7, 34), (7, 35), (7, 36), (7, 37), (7, 38), (7, 39)] rfl (by decide +kernel)
set_option maxRecDepth 20000 in
theorem gX12_add_X12_append : GoodIn wsX12_add (wsV RX12 313 RX12 yX12_append wsX12_append) := goodIn_app (goodIn_of _ (by decide +kernel)) ggX12_add_X12_append
set_option maxRecDepth 20000 in
theorem ggX12_add_X12_place : GoodIn wsX12_add wsX12_place := goodIn_r2 cbX12_add_f _ [(2, 16), (2, 17), (1, 22), (2, 18), (2, 19), (2, 20), (2, 21), (2, 22), (2, 23), (3, 0), (3, 1), (1, 16), (3, 2), (3, 3), (3, 4), (1, 8), (3, 5), (3, 6), (3, 7), (3, 8), (3, 9), (3, 10), (3, 11), (3, 12), (3, 13), (3, 14), (3, 15), (3, 16), (3, 17), (3, 18), (3, 19), (3, 20), (3, 21), (3, 22), (3, 23), (4, 0), (4, 1), (4, 2), (4, 3), (1, 10), (1, 11), (4, 4), (4, 5), (4, 6), (4, 7), (4, 8), (4, 9), (4, 10), (4, 11), (4, 12), (4, 13), (4, 14), (4, 15), (4, 16), (4, 17), (4, 18), (4, 19), (4, 20), (4, 21), (4, 22), (4, 23), (5, 0), (5, 1), (5, 2), (5, 3), (5, 4), (5, 5), (5, 6), (5, 7), (5, 8), (5, 9), (5, 10), (5, 11), (5, 12), (5, 13), (5, 14), (5, 15), (5, 16), (5, 17), (5, 18), (5, 19), (5, 20), (5, 21), (5, 22), (5, 23), (6, 0), (6, 1), (6, 2), (6, 3), (6, 4), (7, 0), (7, 1), (7, 2), (7, 3), (7, 4), (7, 5), (7, 6), (7, 7), (7, 8), (7, 9), (7, 10), (7, 11), (7, 12), (7, 13), (7, 14), (7, 15), (7, 16), (7, 17), (7, 18), (7, 19), (7, 20), (7, 21), (7, 22), (7, 23), (7, 24), (7, 25), (7, 26), (7, 27), (7, 28), (7, 29), (7, 30), (7, 31), (7, 32), (7, 33), (7, 34), (7, 35), (7, 36), (7, 37), (7, 38), (7, 39)] rfl (by decide +kernel)
set_option maxRecDepth 20000 in
theorem gX12_add_X12_place : GoodIn wsX12_add (wsV RX12 95 RX12 yX12_place wsX12_place) := goodIn_app (goodIn_of _ (by decide +kernel)) ggX12_add_X12_place
set_option maxRecDepth 20000 in
theorem ggX12_addMark_X12_addMarkTo : GoodIn wsX12_addMark wsX12_addMarkTo := goodIn_r _ [9, 10, 2, 11, 12, 13, 14, 15, 16, 17, 18, 19, 20, 21, 22, 23, 24, 25, 26, 27, 28, 29, 30, 31, 32, 33, 34, 35, 36, 37, 38, 39, 40, 41, 42, 43, 44, 45, 46, 47, 48, 49, 50] rfl (by decide +kernel)
set_option maxRecDepth 20000 in
theorem gX12_addMark_X12_addMarkTo : GoodIn wsX12_addMark (wsV RX12 303 RX12 yX12_addMarkTo wsX12_addMarkTo) := goodIn_app (goodIn_of _ (by decide +kernel)) ggX12_addMark_X12_addMarkTo
set_option maxRecDepth 20000 in
theorem ggX12_lead_X12_isBehind : GoodIn wsX12_lead wsX12_isBehind := goodIn_r _ [12, 3, 4, 21, 22, 23, 24, 25, 26, 27, 28, 29, 30, 31, 32, 33, 34, 35, 36, 37, 38, 39, 40, 41, 42, 43, 44, 45, 46, 47, 48, 49, 50, 51, 52, 53, 54, 55, 56, 57, 58, 59, 60] rfl (by decide +kernel)
set_option maxRecDepth 20000 in
theorem gX12_lead_X12_isBehind : GoodIn wsX12_lead (wsV RX12 395 RX12 yX12_isBehind wsX12_isBehind) := goodIn_app (goodIn_of _ (by decide +kernel)) ggX12_lead_X12_isBehind
set_option maxRecDepth 20000 in
theorem ggX12_lead_X12_deepOf : GoodIn wsX12_lead wsX12_deepOf := goodIn_r _ [16, 3, 17, 18, 19, 11, 20, 5, 21, 22, 23, 24, 25, 26, 27, 28, 29, 30, 31, 32, 33, 34, 35, 36, 37, 38, 39, 40, 41, 42, 43, 44, 45, 46, 47, 48, 49, 50, 51, 52, 53, 54, 55, 56, 57, 58, 59, 60] rfl (by decide +kernel)
set_option maxRecDepth 20000 in
theorem gX12_lead_X12_deepOf : GoodIn wsX12_lead (wsV RX12 392 RX12 yX12_deepOf wsX12_deepOf) := goodIn_app (goodIn_of _ (by decide +kernel)) ggX12_lead_X12_deepOf
end
