set_option maxRecDepth 20000 in
theorem ggX12_init_X12_clearGame : GoodIn wsX12_init wsX12_clearGame := goodIn_r2 cbX12_init_f _ [(2, 12), (1, 8), (1, 20), (2, 1), (1, 9), (1, 10), (2, 13), (2, 14), (2, 15), (2, 11), (2, 16), (1, 11), (1, 12), (1, 13), (1, 15), (7, 0), (7, 1), (7, 2), (7, 3), (7, 4), (7, 5), (7, 6), (7, 7), (7, 8), (7, 9), (7, 10), (7, 11), (7, 12), (7, 13), (7, 14), (7, 15), (7, 16), (7, 17), (7, 18), (7, 19), (7, 20), (7, 21), (7, 22), (7, 23), (7, 24), (7, 25), (7, 26), (7, 27), (7, 28), (7, 29), (7, 30), (7, 31), (7, 32), (7, 33), (7, 34), (7, 35), (7, 36), (7, 37), (7, 38), (7, 39)] rfl (by decide +kernel)
set_option maxRecDepth 20000 in
theorem gX12_init_X12_clearGame : GoodIn wsX12_init (wsV RX12 88 RX12 yX12_clearGame wsX12_clearGame) := goodIn_app (goodIn_of _ (by decide +kernel)) ggX12_init_X12_clearGame
set_option maxRecDepth 20000 in
theorem ggX12_init_X12_usual : GoodIn wsX12_init wsX12_usual := goodIn_r2 cbX12_init_f _ [(2, 20), (2, 2), (2, 21), (2, 22), (2, 23), (3, 0), (3, 1), (3, 2), (3, 3), (3, 4), (2, 11), (3, 5), (1, 18), (1, 19), (7, 0), (7, 1), (7, 2), (7, 3), (7, 4), (7, 5), (7, 6), (7, 7), (7, 8), (7, 9), (7, 10), (7, 11), (7, 12), (7, 13), (7, 14), (7, 15), (7, 16), (7, 17), (7, 18), (7, 19), (7, 20), (7, 21), (7, 22), (7, 23), (7, 24), (7, 25), (7, 26), (7, 27), (7, 28), (7, 29), (7, 30), (7, 31), (7, 32), (7, 33), (7, 34), (7, 35), (7, 36), (7, 37), (7, 38), (7, 39)] rfl (by decide +kernel)
set_option maxRecDepth 20000 in
theorem gX12_init_X12_usual : GoodIn wsX12_init (wsV RX12 92 RX12 yX12_usual wsX12_usual) := goodIn_app (goodIn_of _ (by decide +kernel)) ggX12_init_X12_usual
set_option maxRecDepth 20000 in
theorem ggX12_init_X12_place : GoodIn wsX12_init wsX12_place := goodIn_r2 cbX12_init_f _ [(3, 9), (2, 6), (1, 9), (2, 2), (1, 18), (1, 19), (2, 21), (2, 22), (2, 23), (3, 0), (3, 1), (1, 10), (3, 10), (3, 11), (3, 12), (2, 11), (3, 13), (3, 14), (3, 15), (3, 16), (3, 17), (3, 18), (3, 19), (3, 20), (3, 21), (3, 22), (3, 23), (4, 0), (4, 1), (4, 2), (4, 3), (4, 4), (4, 5), (4, 6), (4, 7), (4, 8), (4, 9), (4, 10), (4, 11), (4, 12), (2, 5), (4, 13), (4, 14), (4, 15), (4, 16), (4, 17), (4, 18), (4, 19), (4, 20), (4, 21), (4, 22), (4, 23), (5, 0), (5, 1), (5, 2), (5, 3), (5, 4), (5, 5), (5, 6), (5, 7), (5, 8), (5, 9), (5, 10), (5, 11), (5, 12), (5, 13), (5, 14), (5, 15), (5, 16), (5, 17), (5, 18), (5, 19), (5, 20), (5, 21), (5, 22), (5, 23), (2, 3), (2, 4), (6, 0), (6, 1), (6, 2), (6, 3), (6, 4), (6, 5), (6, 6), (6, 7), (6, 8), (6, 9), (6, 10), (6, 11), (7, 0), (7, 1), (7, 2), (7, 3), (7, 4), (7, 5), (7, 6), (7, 7), (7, 8), (7, 9), (7, 10), (7, 11), (7, 12), (7, 13), (7, 14), (7, 15), (7, 16), (7, 17), (7, 18), (7, 19), (7, 20), (7, 21), (7, 22), (7, 23), (7, 24), (7, 25), (7, 26), (7, 27), (7, 28), (7, 29), (7, 30), (7, 31), (7, 32), (7, 33), (7, 34), (7, 35), (7, 36), (7, 37), (7, 38), (7, 39)] rfl (by decide +kernel)
set_option maxRecDepth 20000 in
theorem gX12_init_X12_place : GoodIn wsX12_init (wsV RX12 95 RX12 yX12_place wsX12_place) := goodIn_app (goodIn_of _ (by decide +kernel)) ggX12_init_X12_place
set_option maxRecDepth 20000 in
theorem ggX12_met_X12_step : GoodIn wsX12_met wsX12_step := goodIn_r _ [5] rfl (by decide +kernel)
set_option maxRecDepth 20000 in
theorem gX12_met_X12_step : GoodIn wsX12_met (va_wsS RX12 103 yX12_step wsX12_step) := goodIn_app (goodIn_of _ (by decide +kernel)) ggX12_met_X12_step
set_option maxRecDepth 20000 in
theorem ggX12_isAttacked_X12_step : GoodIn wsX12_isAttacked wsX12_step := goodIn_r _ [4] rfl (by decide +kernel)
set_option maxRecDepth 20000 in
theorem gX12_isAttacked_X12_step : GoodIn wsX12_isAttacked (va_wsS RX12 103 yX12_step wsX12_step) := goodIn_app (goodIn_of _ (by decide +kernel)) ggX12_isAttacked_X12_step
set_option maxRecDepth 20000 in
theorem ggX12_isAttacked_X12_stands : GoodIn wsX12_isAttacked wsX12_stands := goodIn_r _ [8, 9, 14, 15, 16, 17, 18, 19, 20, 21, 22, 23, 24, 25, 26, 27, 28, 29, 30, 31, 32, 33, 34, 35, 36, 37, 38, 39, 40, 41, 42, 43, 44, 45, 46, 47, 48, 49, 50, 51, 52, 53] rfl (by decide +kernel)
set_option maxRecDepth 20000 in
theorem gX12_isAttacked_X12_stands : GoodIn wsX12_isAttacked (wsV RX12 107 RX12 yX12_stands wsX12_stands) := goodIn_app (goodIn_of _ (by decide +kernel)) ggX12_isAttacked_X12_stands
set_option maxRecDepth 20000 in
theorem ggX12_isAttacked_X12_met : GoodIn wsX12_isAttacked wsX12_met := goodIn_r _ [13, 9, 1, 2, 3, 4, 14, 15, 16, 17, 18, 19, 20, 21, 22, 23, 24, 25, 26, 27, 28, 29, 30, 31, 32, 33, 34, 35, 36, 37, 38, 39, 40, 41, 42, 43, 44, 45, 46, 47, 48, 49, 50, 51, 52, 53] rfl (by decide +kernel)
set_option maxRecDepth 20000 in
theorem gX12_isAttacked_X12_met : GoodIn wsX12_isAttacked (wsV RX12 111 RX12 yX12_met wsX12_met) := goodIn_app (goodIn_of _ (by decide +kernel)) ggX12_isAttacked_X12_met
set_option maxRecDepth 20000 in
theorem ggX12_isInCheck_X12_kingOf : GoodIn wsX12_isInCheck wsX12_kingOf := goodIn_r _ [5, 6, 22, 23, 24, 25, 26, 27, 28, 29, 30, 31, 32, 33, 34, 35, 36, 37, 38, 39, 40, 41, 42, 43, 44, 45, 46, 47, 48, 49, 50, 51, 52, 53, 54, 55, 56, 57, 58, 59, 60, 61] rfl (by decide +kernel)
set_option maxRecDepth 20000 in
theorem gX12_isInCheck_X12_kingOf : GoodIn wsX12_isInCheck (wsV RX12 114 RX12 yX12_kingOf wsX12_kingOf) := goodIn_app (goodIn_of _ (by decide +kernel)) ggX12_isInCheck_X12_kingOf
set_option maxRecDepth 20000 in
theorem ggX12_isInCheck_X12_isAttacked : GoodIn wsX12_isInCheck wsX12_isAttacked := goodIn_r _ [10, 11, 12, 4, 13, 14, 15, 16, 17, 6, 18, 19, 20, 21, 22, 23, 24, 25, 26, 27, 28, 29, 30, 31, 32, 33, 34, 35, 36, 37, 38, 39, 40, 41, 42, 43, 44, 45, 46, 47, 48, 49, 50, 51, 52, 53, 54, 55, 56, 57, 58, 59, 60, 61] rfl (by decide +kernel)
set_option maxRecDepth 20000 in
theorem gX12_isInCheck_X12_isAttacked : GoodIn wsX12_isInCheck (wsV RX12 118 RX12 yX12_isAttacked wsX12_isAttacked) := goodIn_app (goodIn_of _ (by decide +kernel)) ggX12_isInCheck_X12_isAttacked
set_option maxRecDepth 20000 in
theorem ggX12_isTaking_X12_kind : GoodIn wsX12_isTaking wsX12_kind := goodIn_r _ [5] rfl (by decide +kernel)
set_option maxRecDepth 20000 in
theorem gX12_isTaking_X12_kind : GoodIn wsX12_isTaking (va_wsS RX12 136 yX12_kind wsX12_kind) := goodIn_app (goodIn_of _ (by decide +kernel)) ggX12_isTaking_X12_kind
set_option maxRecDepth 20000 in
theorem ggX12_make_X12_kind : GoodIn wsX12_make wsX12_kind := goodIn_r _ [9] rfl (by decide +kernel)
set_option maxRecDepth 20000 in
theorem gX12_make_X12_kind : GoodIn wsX12_make (va_wsS RX12 136 yX12_kind wsX12_kind) := goodIn_app (goodIn_of _ (by decide +kernel)) ggX12_make_X12_kind
set_option maxRecDepth 20000 in
theorem ggX12_make_X12_isTaking : GoodIn wsX12_make wsX12_isTaking := goodIn_r2 cbX12_make_f _ [(1, 12), (1, 0), (1, 5), (1, 6), (1, 7), (1, 8), (3, 0), (3, 1), (3, 2), (3, 3), (3, 4), (3, 5), (3, 6), (3, 7), (3, 8), (3, 9), (3, 10), (3, 11), (3, 12), (3, 13), (3, 14), (3, 15), (3, 16), (3, 17), (3, 18), (3, 19), (3, 20), (3, 21), (3, 22), (3, 23), (3, 24), (3, 25), (3, 26), (3, 27), (3, 28), (3, 29), (3, 30), (3, 31), (3, 32), (3, 33), (3, 34), (3, 35), (3, 36), (3, 37), (3, 38), (3, 39)] rfl (by decide +kernel)
set_option maxRecDepth 20000 in
theorem gX12_make_X12_isTaking : GoodIn wsX12_make (wsV RX12 139 RX12 yX12_isTaking wsX12_isTaking) := goodIn_app (goodIn_of _ (by decide +kernel)) ggX12_make_X12_isTaking
set_option maxRecDepth 20000 in
theorem ggX12_make_X12_lose : GoodIn wsX12_make wsX12_lose := goodIn_r2 cbX12_make_f _ [(1, 16), (1, 17), (3, 0), (3, 1), (3, 2), (3, 3), (3, 4), (3, 5), (3, 6), (3, 7), (3, 8), (3, 9), (3, 10), (3, 11), (3, 12), (3, 13), (3, 14), (3, 15), (3, 16), (3, 17), (3, 18), (3, 19), (3, 20), (3, 21), (3, 22), (3, 23), (3, 24), (3, 25), (3, 26), (3, 27), (3, 28), (3, 29), (3, 30), (3, 31), (3, 32), (3, 33), (3, 34), (3, 35), (3, 36), (3, 37), (3, 38), (3, 39)] rfl (by decide +kernel)
set_option maxRecDepth 20000 in
theorem gX12_make_X12_lose : GoodIn wsX12_make (wsV RX12 143 RX12 yX12_lose wsX12_lose) := goodIn_app (goodIn_of _ (by decide +kernel)) ggX12_make_X12_lose
set_option maxRecDepth 20000 in
theorem ggX12_make_X12_step : GoodIn wsX12_make wsX12_step := goodIn_r _ [21] rfl (by decide +kernel)
set_option maxRecDepth 20000 in
theorem gX12_make_X12_step : GoodIn wsX12_make (va_wsS RX12 103 yX12_step wsX12_step) := goodIn_app (goodIn_of _ (by decide +kernel)) ggX12_make_X12_step
set_option maxRecDepth 20000 in
theorem ggX12_make_X12_stands : GoodIn wsX12_make wsX12_stands := goodIn_r2 cbX12_make_f _ [(2, 0), (1, 0), (3, 0), (3, 1), (3, 2), (3, 3), (3, 4), (3, 5), (3, 6), (3, 7), (3, 8), (3, 9), (3, 10), (3, 11), (3, 12), (3, 13), (3, 14), (3, 15), (3, 16), (3, 17), (3, 18), (3, 19), (3, 20), (3, 21), (3, 22), (3, 23), (3, 24), (3, 25), (3, 26), (3, 27), (3, 28), (3, 29), (3, 30), (3, 31), (3, 32), (3, 33), (3, 34), (3, 35), (3, 36), (3, 37), (3, 38), (3, 39)] rfl (by decide +kernel)
set_option maxRecDepth 20000 in
theorem gX12_make_X12_stands : GoodIn wsX12_make (wsV RX12 107 RX12 yX12_stands wsX12_stands) := goodIn_app (goodIn_of _ (by decide +kernel)) ggX12_make_X12_stands
set_option maxRecDepth 20000 in
theorem ggX12_isSafe_X12_keep : GoodIn wsX12_isSafe wsX12_keep := goodIn_r2 cbX12_isSafe_f _ [(1, 5), (1, 6), (1, 7), (1, 8), (1, 0), (1, 9), (1, 10), (1, 11), (1, 12), (4, 0), (4, 1), (4, 2), (4, 3), (4, 4), (4, 5), (4, 6), (4, 7), (4, 8), (4, 9), (4, 10), (4, 11), (4, 12), (4, 13), (4, 14), (4, 15), (4, 16), (4, 17), (4, 18), (4, 19), (4, 20), (4, 21), (4, 22), (4, 23), (4, 24), (4, 25), (4, 26), (4, 27), (4, 28), (4, 29), (4, 30), (4, 31), (4, 32), (4, 33), (4, 34), (4, 35), (4, 36), (4, 37), (4, 38), (4, 39)] rfl (by decide +kernel)
set_option maxRecDepth 20000 in
theorem gX12_isSafe_X12_keep : GoodIn wsX12_isSafe (wsV RX12 146 RX12 yX12_keep wsX12_keep) := goodIn_app (goodIn_of _ (by decide +kernel)) ggX12_isSafe_X12_keep
set_option maxRecDepth 20000 in
theorem ggX12_isSafe_X12_make : GoodIn wsX12_isSafe wsX12_make := goodIn_r2 cbX12_isSafe_f _ [(1, 16), (1, 7), (1, 11), (1, 0), (1, 10), (1, 12), (1, 17), (1, 18), (1, 4), (1, 19), (1, 20), (1, 21), (1, 22), (1, 23), (2, 0), (2, 1), (2, 2), (2, 3), (1, 9), (2, 4), (2, 5), (2, 6), (2, 7), (2, 8), (2, 9), (2, 10), (4, 0), (4, 1), (4, 2), (4, 3), (4, 4), (4, 5), (4, 6), (4, 7), (4, 8), (4, 9), (4, 10), (4, 11), (4, 12), (4, 13), (4, 14), (4, 15), (4, 16), (4, 17), (4, 18), (4, 19), (4, 20), (4, 21), (4, 22), (4, 23), (4, 24), (4, 25), (4, 26), (4, 27), (4, 28), (4, 29), (4, 30), (4, 31), (4, 32), (4, 33), (4, 34), (4, 35), (4, 36), (4, 37), (4, 38), (4, 39)] rfl (by decide +kernel)
set_option maxRecDepth 20000 in
theorem gX12_isSafe_X12_make : GoodIn wsX12_isSafe (wsV RX12 149 RX12 yX12_make wsX12_make) := goodIn_app (goodIn_of _ (by decide +kernel)) ggX12_isSafe_X12_make
set_option maxRecDepth 20000 in
theorem ggX12_isSafe_X12_isInCheck : GoodIn wsX12_isSafe wsX12_isInCheck := goodIn_r2 cbX12_isSafe_f _ [(2, 14), (2, 15), (2, 16), (2, 17), (1, 4), (2, 18), (1, 7), (2, 19), (2, 20), (2, 21), (2, 22), (2, 4), (2, 5), (2, 6), (2, 7), (2, 8), (2, 9), (2, 10), (2, 23), (3, 0), (3, 1), (3, 2), (4, 0), (4, 1), (4, 2), (4, 3), (4, 4), (4, 5), (4, 6), (4, 7), (4, 8), (4, 9), (4, 10), (4, 11), (4, 12), (4, 13), (4, 14), (4, 15), (4, 16), (4, 17), (4, 18), (4, 19), (4, 20), (4, 21), (4, 22), (4, 23), (4, 24), (4, 25), (4, 26), (4, 27), (4, 28), (4, 29), (4, 30), (4, 31), (4, 32), (4, 33), (4, 34), (4, 35), (4, 36), (4, 37), (4, 38), (4, 39)] rfl (by decide +kernel)
set_option maxRecDepth 20000 in
theorem gX12_isSafe_X12_isInCheck : GoodIn wsX12_isSafe (wsV RX12 152 RX12 yX12_isInCheck wsX12_isInCheck) := goodIn_app (goodIn_of _ (by decide +kernel)) ggX12_isSafe_X12_isInCheck
set_option maxRecDepth 20000 in
theorem ggX12_isSafe_X12_bringBack : GoodIn wsX12_isSafe wsX12_bringBack := goodIn_r2 cbX12_isSafe_f _ [(3, 6), (1, 7), (1, 6), (1, 8), (1, 0), (1, 9), (1, 10), (1, 11), (1, 12), (4, 0), (4, 1), (4, 2), (4, 3), (4, 4), (4, 5), (4, 6), (4, 7), (4, 8), (4, 9), (4, 10), (4, 11), (4, 12), (4, 13), (4, 14), (4, 15), (4, 16), (4, 17), (4, 18), (4, 19), (4, 20), (4, 21), (4, 22), (4, 23), (4, 24), (4, 25), (4, 26), (4, 27), (4, 28), (4, 29), (4, 30), (4, 31), (4, 32), (4, 33), (4, 34), (4, 35), (4, 36), (4, 37), (4, 38), (4, 39)] rfl (by decide +kernel)
set_option maxRecDepth 20000 in
theorem gX12_isSafe_X12_bringBack : GoodIn wsX12_isSafe (wsV RX12 155 RX12 yX12_bringBack wsX12_bringBack) := goodIn_app (goodIn_of _ (by decide +kernel)) ggX12_isSafe_X12_bringBack
set_option maxRecDepth 20000 in
theorem ggX12_mayCastle_X12_isClear : GoodIn wsX12_mayCastle wsX12_isClear := goodIn_r _ [7, 8, 24, 25, 26, 27, 28, 29, 30, 31, 32, 33, 34, 35, 36, 37, 38, 39, 40, 41, 42, 43, 44, 45, 46, 47, 48, 49, 50, 51, 52, 53, 54, 55, 56, 57, 58, 59, 60, 61, 62, 63] rfl (by decide +kernel)
set_option maxRecDepth 20000 in
theorem gX12_mayCastle_X12_isClear : GoodIn wsX12_mayCastle (wsV RX12 158 RX12 yX12_isClear wsX12_isClear) := goodIn_app (goodIn_of _ (by decide +kernel)) ggX12_mayCastle_X12_isClear
set_option maxRecDepth 20000 in
theorem ggX12_mayCastle_X12_isAttacked : GoodIn wsX12_mayCastle wsX12_isAttacked := goodIn_r _ [12, 13, 14, 6, 15, 16, 17, 18, 19, 8, 20, 21, 22, 23, 24, 25, 26, 27, 28, 29, 30, 31, 32, 33, 34, 35, 36, 37, 38, 39, 40, 41, 42, 43, 44, 45, 46, 47, 48, 49, 50, 51, 52, 53, 54, 55, 56, 57, 58, 59, 60, 61, 62, 63] rfl (by decide +kernel)
set_option maxRecDepth 20000 in
theorem gX12_mayCastle_X12_isAttacked : GoodIn wsX12_mayCastle (wsV RX12 118 RX12 yX12_isAttacked wsX12_isAttacked) := goodIn_app (goodIn_of _ (by decide +kernel)) ggX12_mayCastle_X12_isAttacked
set_option maxRecDepth 20000 in
theorem ggX12_pawnGoes_X12_sideOf : GoodIn wsX12_pawnGoes wsX12_sideOf := goodIn_r _ [7] rfl (by decide +kernel)
set_option maxRecDepth 20000 in
theorem gX12_pawnGoes_X12_sideOf : GoodIn wsX12_pawnGoes (va_wsS RX12 161 yX12_sideOf wsX12_sideOf) := goodIn_app (goodIn_of _ (by decide +kernel)) ggX12_pawnGoes_X12_sideOf
set_option maxRecDepth 20000 in
theorem ggX12_goes_X12_sideOf : GoodIn wsX12_goes wsX12_sideOf := goodIn_r _ [6] rfl (by decide +kernel)
set_option maxRecDepth 20000 in
theorem gX12_goes_X12_sideOf : GoodIn wsX12_goes (va_wsS RX12 161 yX12_sideOf wsX12_sideOf) := goodIn_app (goodIn_of _ (by decide +kernel)) ggX12_goes_X12_sideOf
set_option maxRecDepth 20000 in
theorem ggX12_goes_X12_kind : GoodIn wsX12_goes wsX12_kind := goodIn_r _ [9] rfl (by decide +kernel)
set_option maxRecDepth 20000 in
theorem gX12_goes_X12_kind : GoodIn wsX12_goes (va_wsS RX12 136 yX12_kind wsX12_kind) := goodIn_app (goodIn_of _ (by decide +kernel)) ggX12_goes_X12_kind
set_option maxRecDepth 20000 in
theorem ggX12_goes_X12_pawnGoes : GoodIn wsX12_goes wsX12_pawnGoes := goodIn_r2 cbX12_goes_f _ [(1, 12), (1, 1), (1, 0), (1, 13), (1, 2), (1, 3), (1, 4), (1, 5), (3, 0), (3, 1), (3, 2), (3, 3), (3, 4), (3, 5), (3, 6), (3, 7), (3, 8), (3, 9), (3, 10), (3, 11), (3, 12), (3, 13), (3, 14), (3, 15), (3, 16), (3, 17), (3, 18), (3, 19), (3, 20), (3, 21), (3, 22), (3, 23), (3, 24), (3, 25), (3, 26), (3, 27), (3, 28), (3, 29), (3, 30), (3, 31), (3, 32), (3, 33), (3, 34), (3, 35), (3, 36), (3, 37), (3, 38), (3, 39)] rfl (by decide +kernel)
set_option maxRecDepth 20000 in
theorem gX12_goes_X12_pawnGoes : GoodIn wsX12_goes (wsV RX12 164 RX12 yX12_pawnGoes wsX12_pawnGoes) := goodIn_app (goodIn_of _ (by decide +kernel)) ggX12_goes_X12_pawnGoes
set_option maxRecDepth 20000 in
theorem ggX12_goes_X12_mayCastle : GoodIn wsX12_goes wsX12_mayCastle := goodIn_r2 cbX12_goes_f _ [(1, 17), (1, 1), (1, 18), (1, 19), (1, 20), (1, 21), (1, 4), (1, 22), (1, 0), (1, 23), (2, 0), (2, 1), (2, 2), (2, 3), (2, 4), (2, 5), (2, 6), (2, 7), (2, 8), (2, 9), (2, 10), (2, 11), (2, 12), (2, 13), (3, 0), (3, 1), (3, 2), (3, 3), (3, 4), (3, 5), (3, 6), (3, 7), (3, 8), (3, 9), (3, 10), (3, 11), (3, 12), (3, 13), (3, 14), (3, 15), (3, 16), (3, 17), (3, 18), (3, 19), (3, 20), (3, 21), (3, 22), (3, 23), (3, 24), (3, 25), (3, 26), (3, 27), (3, 28), (3, 29), (3, 30), (3, 31), (3, 32), (3, 33), (3, 34), (3, 35), (3, 36), (3, 37), (3, 38), (3, 39)] rfl (by decide +kernel)
set_option maxRecDepth 20000 in
theorem gX12_goes_X12_mayCastle : GoodIn wsX12_goes (wsV RX12 167 RX12 yX12_mayCastle wsX12_mayCastle) := goodIn_app (goodIn_of _ (by decide +kernel)) ggX12_goes_X12_mayCastle
set_option maxRecDepth 20000 in
theorem ggX12_goes_X12_step : GoodIn wsX12_goes wsX12_step := goodIn_r _ [30] rfl (by decide +kernel)
set_option maxRecDepth 20000 in
theorem gX12_goes_X12_step : GoodIn wsX12_goes (va_wsS RX12 103 yX12_step wsX12_step) := goodIn_app (goodIn_of _ (by decide +kernel)) ggX12_goes_X12_step
set_option maxRecDepth 20000 in
theorem ggX12_findMoves_X12_sideOf : GoodIn wsX12_findMoves wsX12_sideOf := goodIn_r _ [8] rfl (by decide +kernel)
set_option maxRecDepth 20000 in
theorem gX12_findMoves_X12_sideOf : GoodIn wsX12_findMoves (va_wsS RX12 161 yX12_sideOf wsX12_sideOf) := goodIn_app (goodIn_of _ (by decide +kernel)) ggX12_findMoves_X12_sideOf
set_option maxRecDepth 20000 in
theorem ggX12_findMoves_X12_goes : GoodIn wsX12_findMoves wsX12_goes := goodIn_r2 cbX12_findMoves_f _ [(1, 11), (1, 1), (1, 2), (1, 4), (1, 5), (1, 6), (1, 7), (1, 12), (1, 13), (1, 14), (1, 15), (1, 16), (1, 17), (1, 18), (1, 19), (1, 20), (1, 21), (1, 22), (1, 23), (2, 0), (2, 1), (2, 2), (2, 3), (2, 4), (2, 5), (2, 6), (2, 7), (2, 8), (2, 9), (2, 10), (2, 11), (2, 12), (2, 13), (2, 14), (2, 15), (2, 16), (2, 17), (2, 18), (2, 19), (5, 0), (5, 1), (5, 2), (5, 3), (5, 4), (5, 5), (5, 6), (5, 7), (5, 8), (5, 9), (5, 10), (5, 11), (5, 12), (5, 13), (5, 14), (5, 15), (5, 16), (5, 17), (5, 18), (5, 19), (5, 20), (5, 21), (5, 22), (5, 23), (5, 24), (5, 25), (5, 26), (5, 27), (5, 28), (5, 29), (5, 30), (5, 31), (5, 32), (5, 33), (5, 34), (5, 35), (5, 36), (5, 37), (5, 38), (5, 39)] rfl (by decide +kernel)
set_option maxRecDepth 20000 in
theorem gX12_findMoves_X12_goes : GoodIn wsX12_findMoves (wsV RX12 173 RX12 yX12_goes wsX12_goes) := goodIn_app (goodIn_of _ (by decide +kernel)) ggX12_findMoves_X12_goes
set_option maxRecDepth 20000 in
theorem ggX12_findMoves_X12_kind : GoodIn wsX12_findMoves wsX12_kind := goodIn_r _ [15] rfl (by decide +kernel)
set_option maxRecDepth 20000 in
theorem gX12_findMoves_X12_kind : GoodIn wsX12_findMoves (va_wsS RX12 136 yX12_kind wsX12_kind) := goodIn_app (goodIn_of _ (by decide +kernel)) ggX12_findMoves_X12_kind
set_option maxRecDepth 20000 in
theorem ggX12_findMoves_X12_isSafe : GoodIn wsX12_findMoves wsX12_isSafe := goodIn_r2 cbX12_findMoves_f _ [(2, 23), (1, 2), (3, 0), (3, 1), (3, 2), (1, 6), (3, 3), (3, 4), (1, 1), (3, 5), (2, 0), (1, 19), (3, 6), (3, 7), (3, 8), (3, 9), (3, 10), (3, 11), (1, 12), (1, 13), (1, 14), (3, 12), (3, 13), (3, 14), (3, 15), (3, 16), (3, 17), (3, 18), (3, 19), (2, 9), (2, 10), (2, 11), (2, 12), (2, 13), (2, 14), (2, 15), (3, 20), (3, 21), (3, 22), (3, 23), (4, 0), (4, 1), (4, 2), (4, 3), (2, 5), (2, 6), (2, 7), (2, 8), (2, 16), (2, 17), (2, 18), (2, 19), (4, 4), (4, 5), (4, 6), (4, 7), (5, 0), (5, 1), (5, 2), (5, 3), (5, 4), (5, 5), (5, 6), (5, 7), (5, 8), (5, 9), (5, 10), (5, 11), (5, 12), (5, 13), (5, 14), (5, 15), (5, 16), (5, 17), (5, 18), (5, 19), (5, 20), (5, 21), (5, 22), (5, 23), (5, 24), (5, 25), (5, 26), (5, 27), (5, 28), (5, 29), (5, 30), (5, 31), (5, 32), (5, 33), (5, 34), (5, 35), (5, 36), (5, 37), (5, 38), (5, 39)] rfl (by decide +kernel)
set_option maxRecDepth 20000 in
theorem gX12_findMoves_X12_isSafe : GoodIn wsX12_findMoves (wsV RX12 176 RX12 yX12_isSafe wsX12_isSafe) := goodIn_app (goodIn_of _ (by decide +kernel)) ggX12_findMoves_X12_isSafe
set_option maxRecDepth 20000 in
theorem ggX12_clearGame_X12_clearNode : GoodIn wsX12_clearGame wsX12_clearNode := goodIn_r _ [10, 11, 12, 13, 14, 15, 16, 17, 18, 19, 20, 21, 22, 23, 24, 25, 26, 27, 28, 29, 30, 31, 32, 33, 34, 35, 36, 37, 38, 39, 40, 41, 42, 43, 44, 45, 46, 47, 48, 49, 50, 51, 52, 53, 54] rfl (by decide +kernel)
set_option maxRecDepth 20000 in
theorem gX12_clearGame_X12_clearNode : GoodIn wsX12_clearGame (wsV RX12 179 RX12 yX12_clearNode wsX12_clearNode) := goodIn_app (goodIn_of _ (by decide +kernel)) ggX12_clearGame_X12_clearNode
set_option maxRecDepth 20000 in
theorem ggX12_usual_X12_start : GoodIn wsX12_usual wsX12_start := goodIn_r _ [11, 12, 1, 13, 2, 3, 4, 5, 6, 14, 15, 16, 17, 18, 19, 20, 21, 22, 23, 24, 25, 26, 27, 28, 29, 30, 31, 32, 33, 34, 35, 36, 37, 38, 39, 40, 41, 42, 43, 44, 45, 46, 47, 48, 49, 50, 51, 52, 53] rfl (by decide +kernel)
set_option maxRecDepth 20000 in
theorem gX12_usual_X12_start : GoodIn wsX12_usual (wsV RX12 182 RX12 yX12_start wsX12_start) := goodIn_app (goodIn_of _ (by decide +kernel)) ggX12_usual_X12_start
set_option maxRecDepth 20000 in
theorem ggX12_place_X12_make : GoodIn wsX12_place wsX12_make := goodIn_r2 cbX12_place_f _ [(1, 15), (1, 2), (1, 8), (1, 5), (1, 7), (1, 9), (1, 16), (1, 17), (1, 14), (1, 18), (1, 19), (1, 20), (1, 21), (1, 22), (1, 23), (2, 0), (2, 1), (2, 2), (1, 6), (2, 3), (2, 4), (2, 5), (2, 6), (2, 7), (2, 8), (2, 9), (5, 0), (5, 1), (5, 2), (5, 3), (5, 4), (5, 5), (5, 6), (5, 7), (5, 8), (5, 9), (5, 10), (5, 11), (5, 12), (5, 13), (5, 14), (5, 15), (5, 16), (5, 17), (5, 18), (5, 19), (5, 20), (5, 21), (5, 22), (5, 23), (5, 24), (5, 25), (5, 26), (5, 27), (5, 28), (5, 29), (5, 30), (5, 31), (5, 32), (5, 33), (5, 34), (5, 35), (5, 36), (5, 37), (5, 38), (5, 39)] rfl (by decide +kernel)
set_option maxRecDepth 20000 in
theorem gX12_place_X12_make : GoodIn wsX12_place (wsV RX12 149 RX12 yX12_make wsX12_make) := goodIn_app (goodIn_of _ (by decide +kernel)) ggX12_place_X12_make
set_option maxRecDepth 20000 in
theorem ggX12_place_X12_findMoves : GoodIn wsX12_place wsX12_findMoves := goodIn_r2 cbX12_place_f _ [(2, 13), (2, 14), (1, 2), (1, 5), (2, 15), (2, 16), (2, 17), (1, 14), (2, 18), (2, 19), (2, 20), (2, 21), (2, 22), (1, 16), (1, 17), (1, 18), (2, 23), (3, 0), (3, 1), (3, 2), (1, 7), (3, 3), (3, 4), (3, 5), (3, 6), (1, 6), (3, 7), (3, 8), (3, 9), (3, 10), (3, 11), (3, 12), (3, 13), (3, 14), (2, 3), (2, 4), (2, 5), (2, 6), (2, 7), (2, 8), (2, 9), (3, 15), (3, 16), (3, 17), (3, 18), (3, 19), (3, 20), (3, 21), (3, 22), (3, 23), (4, 0), (4, 1), (4, 2), (4, 3), (4, 4), (1, 8), (1, 9), (1, 11), (1, 12), (1, 13), (1, 15), (1, 19), (1, 20), (1, 21), (1, 22), (1, 23), (2, 0), (2, 1), (2, 2), (4, 5), (4, 6), (4, 7), (4, 8), (4, 9), (4, 10), (4, 11), (4, 12), (4, 13), (4, 14), (4, 15), (4, 16), (5, 0), (5, 1), (5, 2), (5, 3), (5, 4), (5, 5), (5, 6), (5, 7), (5, 8), (5, 9), (5, 10), (5, 11), (5, 12), (5, 13), (5, 14), (5, 15), (5, 16), (5, 17), (5, 18), (5, 19), (5, 20), (5, 21), (5, 22), (5, 23), (5, 24), (5, 25), (5, 26), (5, 27), (5, 28), (5, 29), (5, 30), (5, 31), (5, 32), (5, 33), (5, 34), (5, 35), (5, 36), (5, 37), (5, 38), (5, 39)] rfl (by decide +kernel)
set_option maxRecDepth 20000 in
theorem gX12_place_X12_findMoves : GoodIn wsX12_place (wsV RX12 185 RX12 yX12_findMoves wsX12_findMoves) := goodIn_app (goodIn_of _ (by decide +kernel)) ggX12_place_X12_findMoves
set_option maxRecDepth 20000 in
theorem ggX12_append_X12_clearNode : GoodIn wsX12_append wsX12_clearNode := goodIn_r _ [10, 4, 5, 11, 12, 13, 14, 15, 16, 17, 18, 19, 20, 21, 22, 23, 24, 25, 26, 27, 28, 29, 30, 31, 32, 33, 34, 35, 36, 37, 38, 39, 40, 41, 42, 43, 44, 45, 46, 47, 48, 49, 50, 51, 52] rfl (by decide +kernel)
set_option maxRecDepth 20000 in
theorem gX12_append_X12_clearNode : GoodIn wsX12_append (wsV RX12 179 RX12 yX12_clearNode wsX12_clearNode) := goodIn_app (goodIn_of _ (by decide +kernel)) ggX12_append_X12_clearNode
set_option maxRecDepth 20000 in
theorem ggX12_deepOf_X12_isFirst : GoodIn wsX12_deepOf wsX12_isFirst := goodIn_r _ [6, 7, 1, 8, 9, 10, 11, 12, 13, 14, 15, 16, 17, 18, 19, 20, 21, 22, 23, 24, 25, 26, 27, 28, 29, 30, 31, 32, 33, 34, 35, 36, 37, 38, 39, 40, 41, 42, 43, 44, 45, 46, 47] rfl (by decide +kernel)
set_option maxRecDepth 20000 in
theorem gX12_deepOf_X12_isFirst : GoodIn wsX12_deepOf (wsV RX12 188 RX12 yX12_isFirst wsX12_isFirst) := goodIn_app (goodIn_of _ (by decide +kernel)) ggX12_deepOf_X12_isFirst
set_option maxRecDepth 20000 in
theorem ggX12_spellSquare_X12_spell : GoodIn wsX12_spellSquare wsX12_spell := goodIn_r _ [5, 6, 7, 8, 9, 10, 11, 12, 13, 14, 15, 16, 17, 18, 19, 20, 21, 22, 23, 24, 25, 26, 27, 28, 29, 30, 31, 32, 33, 34, 35, 36, 37, 38, 39, 40, 41, 42, 43, 44, 45, 46, 47] rfl (by decide +kernel)
set_option maxRecDepth 20000 in
theorem gX12_spellSquare_X12_spell : GoodIn wsX12_spellSquare (wsV RX12 194 RX12 yX12_spell wsX12_spell) := goodIn_app (goodIn_of _ (by decide +kernel)) ggX12_spellSquare_X12_spell
set_option maxRecDepth 20000 in
theorem ggX12_isCastling_X12_kind : GoodIn wsX12_isCastling wsX12_kind := goodIn_r _ [5] rfl (by decide +kernel)
set_option maxRecDepth 20000 in
theorem gX12_isCastling_X12_kind : GoodIn wsX12_isCastling (va_wsS RX12 136 yX12_kind wsX12_kind) := goodIn_app (goodIn_of _ (by decide +kernel)) ggX12_isCastling_X12_kind
set_option maxRecDepth 20000 in
theorem ggX12_spellMove_X12_isCastling : GoodIn wsX12_spellMove wsX12_isCastling := goodIn_r _ [7, 2, 8, 9, 6, 10, 23, 24, 25, 26, 27, 28, 29, 30, 31, 32, 33, 34, 35, 36, 37, 38, 39, 40, 41, 42, 43, 44, 45, 46, 47, 48, 49, 50, 51, 52, 53, 54, 55, 56, 57, 58, 59, 60, 61, 62] rfl (by decide +kernel)
set_option maxRecDepth 20000 in
theorem gX12_spellMove_X12_isCastling : GoodIn wsX12_spellMove (wsV RX12 198 RX12 yX12_isCastling wsX12_isCastling) := goodIn_app (goodIn_of _ (by decide +kernel)) ggX12_spellMove_X12_isCastling
set_option maxRecDepth 20000 in
theorem ggX12_spellMove_X12_spell : GoodIn wsX12_spellMove wsX12_spell := goodIn_r _ [14, 15, 1, 23, 24, 25, 26, 27, 28, 29, 30, 31, 32, 33, 34, 35, 36, 37, 38, 39, 40, 41, 42, 43, 44, 45, 46, 47, 48, 49, 50, 51, 52, 53, 54, 55, 56, 57, 58, 59, 60, 61, 62] rfl (by decide +kernel)
set_option maxRecDepth 20000 in
theorem gX12_spellMove_X12_spell : GoodIn wsX12_spellMove (wsV RX12 194 RX12 yX12_spell wsX12_spell) := goodIn_app (goodIn_of _ (by decide +kernel)) ggX12_spellMove_X12_spell
set_option maxRecDepth 20000 in
theorem ggX12_spellMove_X12_kind : GoodIn wsX12_spellMove wsX12_kind := goodIn_r _ [10] rfl (by decide +kernel)
set_option maxRecDepth 20000 in
theorem gX12_spellMove_X12_kind : GoodIn wsX12_spellMove (va_wsS RX12 136 yX12_kind wsX12_kind) := goodIn_app (goodIn_of _ (by decide +kernel)) ggX12_spellMove_X12_kind
set_option maxRecDepth 20000 in
theorem ggX12_spellMove_X12_letter : GoodIn wsX12_spellMove wsX12_letter := goodIn_r _ [18] rfl (by decide +kernel)
set_option maxRecDepth 20000 in
theorem gX12_spellMove_X12_letter : GoodIn wsX12_spellMove (va_wsS RX12 201 yX12_letter wsX12_letter) := goodIn_app (goodIn_of _ (by decide +kernel)) ggX12_spellMove_X12_letter
set_option maxRecDepth 20000 in
theorem ggX12_spellMove_X12_spellSquare : GoodIn wsX12_spellMove wsX12_spellSquare := goodIn_r _ [22, 11, 12, 13, 6, 14, 15, 1, 23, 24, 25, 26, 27, 28, 29, 30, 31, 32, 33, 34, 35, 36, 37, 38, 39, 40, 41, 42, 43, 44, 45, 46, 47, 48, 49, 50, 51, 52, 53, 54, 55, 56, 57, 58, 59, 60, 61, 62] rfl (by decide +kernel)
set_option maxRecDepth 20000 in
theorem gX12_spellMove_X12_spellSquare : GoodIn wsX12_spellMove (wsV RX12 205 RX12 yX12_spellSquare wsX12_spellSquare) := goodIn_app (goodIn_of _ (by decide +kernel)) ggX12_spellMove_X12_spellSquare
set_option maxRecDepth 20000 in
theorem ggX12_behind_X12_keep : GoodIn wsX12_behind wsX12_keep := goodIn_r2 cbX12_behind_f _ [(1, 5), (1, 6), (1, 7), (1, 8), (1, 0), (1, 9), (1, 10), (1, 11), (1, 12), (5, 0), (5, 1), (5, 2), (5, 3), (5, 4), (5, 5), (5, 6), (5, 7), (5, 8), (5, 9), (5, 10), (5, 11), (5, 12), (5, 13), (5, 14), (5, 15), (5, 16), (5, 17), (5, 18), (5, 19), (5, 20), (5, 21), (5, 22), (5, 23), (5, 24), (5, 25), (5, 26), (5, 27), (5, 28), (5, 29), (5, 30), (5, 31), (5, 32), (5, 33), (5, 34), (5, 35), (5, 36), (5, 37), (5, 38), (5, 39)] rfl (by decide +kernel)
set_option maxRecDepth 20000 in
theorem gX12_behind_X12_keep : GoodIn wsX12_behind (wsV RX12 146 RX12 yX12_keep wsX12_keep) := goodIn_app (goodIn_of _ (by decide +kernel)) ggX12_behind_X12_keep
set_option maxRecDepth 20000 in
theorem ggX12_behind_X12_make : GoodIn wsX12_behind wsX12_make := goodIn_r2 cbX12_behind_f _ [(1, 16), (1, 7), (1, 11), (1, 0), (1, 10), (1, 12), (1, 17), (1, 18), (1, 4), (1, 19), (1, 20), (1, 21), (1, 22), (1, 23), (2, 0), (2, 1), (2, 2), (2, 3), (1, 9), (2, 4), (2, 5), (2, 6), (2, 7), (2, 8), (2, 9), (2, 10), (5, 0), (5, 1), (5, 2), (5, 3), (5, 4), (5, 5), (5, 6), (5, 7), (5, 8), (5, 9), (5, 10), (5, 11), (5, 12), (5, 13), (5, 14), (5, 15), (5, 16), (5, 17), (5, 18), (5, 19), (5, 20), (5, 21), (5, 22), (5, 23), (5, 24), (5, 25), (5, 26), (5, 27), (5, 28), (5, 29), (5, 30), (5, 31), (5, 32), (5, 33), (5, 34), (5, 35), (5, 36), (5, 37), (5, 38), (5, 39)] rfl (by decide +kernel)
set_option maxRecDepth 20000 in
theorem gX12_behind_X12_make : GoodIn wsX12_behind (wsV RX12 149 RX12 yX12_make wsX12_make) := goodIn_app (goodIn_of _ (by decide +kernel)) ggX12_behind_X12_make
set_option maxRecDepth 20000 in
theorem ggX12_behind_X12_isInCheck : GoodIn wsX12_behind wsX12_isInCheck := goodIn_r2 cbX12_behind_f _ [(2, 14), (2, 15), (2, 16), (2, 17), (1, 4), (2, 18), (1, 7), (2, 19), (2, 20), (2, 21), (2, 22), (2, 4), (2, 5), (2, 6), (2, 7), (2, 8), (2, 9), (2, 10), (2, 23), (3, 0), (3, 1), (3, 2), (5, 0), (5, 1), (5, 2), (5, 3), (5, 4), (5, 5), (5, 6), (5, 7), (5, 8), (5, 9), (5, 10), (5, 11), (5, 12), (5, 13), (5, 14), (5, 15), (5, 16), (5, 17), (5, 18), (5, 19), (5, 20), (5, 21), (5, 22), (5, 23), (5, 24), (5, 25), (5, 26), (5, 27), (5, 28), (5, 29), (5, 30), (5, 31), (5, 32), (5, 33), (5, 34), (5, 35), (5, 36), (5, 37), (5, 38), (5, 39)] rfl (by decide +kernel)
set_option maxRecDepth 20000 in
theorem gX12_behind_X12_isInCheck : GoodIn wsX12_behind (wsV RX12 152 RX12 yX12_isInCheck wsX12_isInCheck) := goodIn_app (goodIn_of _ (by decide +kernel)) ggX12_behind_X12_isInCheck
set_option maxRecDepth 20000 in
theorem ggX12_behind_X12_goes : GoodIn wsX12_behind wsX12_goes := goodIn_r2 cbX12_behind_f _ [(3, 6), (1, 7), (1, 0), (3, 7), (3, 8), (1, 4), (3, 9), (1, 17), (1, 18), (1, 19), (3, 10), (3, 11), (3, 12), (3, 13), (1, 10), (3, 14), (3, 15), (3, 16), (3, 17), (1, 9), (3, 18), (3, 19), (3, 20), (3, 21), (2, 19), (2, 20), (2, 21), (2, 22), (2, 4), (2, 5), (2, 6), (2, 7), (2, 8), (2, 9), (2, 10), (2, 23), (3, 0), (3, 1), (3, 2), (5, 0), (5, 1), (5, 2), (5, 3), (5, 4), (5, 5), (5, 6), (5, 7), (5, 8), (5, 9), (5, 10), (5, 11), (5, 12), (5, 13), (5, 14), (5, 15), (5, 16), (5, 17), (5, 18), (5, 19), (5, 20), (5, 21), (5, 22), (5, 23), (5, 24), (5, 25), (5, 26), (5, 27), (5, 28), (5, 29), (5, 30), (5, 31), (5, 32), (5, 33), (5, 34), (5, 35), (5, 36), (5, 37), (5, 38), (5, 39)] rfl (by decide +kernel)
set_option maxRecDepth 20000 in
theorem gX12_behind_X12_goes : GoodIn wsX12_behind (wsV RX12 173 RX12 yX12_goes wsX12_goes) := goodIn_app (goodIn_of _ (by decide +kernel)) ggX12_behind_X12_goes
set_option maxRecDepth 20000 in
theorem ggX12_behind_X12_isSafeOnce : GoodIn wsX12_behind wsX12_isSafeOnce := goodIn_r2 cbX12_behind_f _ [(4, 1), (1, 7), (1, 0), (1, 17), (1, 18), (1, 4), (1, 19), (2, 11), (2, 12), (2, 13), (2, 14), (2, 15), (2, 16), (2, 17), (2, 18), (2, 19), (2, 20), (2, 21), (2, 22), (2, 4), (2, 5), (2, 6), (2, 7), (2, 8), (2, 9), (2, 10), (2, 23), (3, 0), (3, 1), (3, 2), (5, 0), (5, 1), (5, 2), (5, 3), (5, 4), (5, 5), (5, 6), (5, 7), (5, 8), (5, 9), (5, 10), (5, 11), (5, 12), (5, 13), (5, 14), (5, 15), (5, 16), (5, 17), (5, 18), (5, 19), (5, 20), (5, 21), (5, 22), (5, 23), (5, 24), (5, 25), (5, 26), (5, 27), (5, 28), (5, 29), (5, 30), (5, 31), (5, 32), (5, 33), (5, 34), (5, 35), (5, 36), (5, 37), (5, 38), (5, 39)] rfl (by decide +kernel)
set_option maxRecDepth 20000 in
theorem gX12_behind_X12_isSafeOnce : GoodIn wsX12_behind (wsV RX12 208 RX12 yX12_isSafeOnce wsX12_isSafeOnce) := goodIn_app (goodIn_of _ (by decide +kernel)) ggX12_behind_X12_isSafeOnce
set_option maxRecDepth 20000 in
theorem ggX12_behind_X12_bringBack : GoodIn wsX12_behind wsX12_bringBack := goodIn_r2 cbX12_behind_f _ [(4, 5), (1, 7), (1, 6), (1, 8), (1, 0), (1, 9), (1, 10), (1, 11), (1, 12), (5, 0), (5, 1), (5, 2), (5, 3), (5, 4), (5, 5), (5, 6), (5, 7), (5, 8), (5, 9), (5, 10), (5, 11), (5, 12), (5, 13), (5, 14), (5, 15), (5, 16), (5, 17), (5, 18), (5, 19), (5, 20), (5, 21), (5, 22), (5, 23), (5, 24), (5, 25), (5, 26), (5, 27), (5, 28), (5, 29), (5, 30), (5, 31), (5, 32), (5, 33), (5, 34), (5, 35), (5, 36), (5, 37), (5, 38), (5, 39)] rfl (by decide +kernel)
set_option maxRecDepth 20000 in
theorem gX12_behind_X12_bringBack : GoodIn wsX12_behind (wsV RX12 155 RX12 yX12_bringBack wsX12_bringBack) := goodIn_app (goodIn_of _ (by decide +kernel)) ggX12_behind_X12_bringBack
set_option maxRecDepth 20000 in
theorem ggX12_isSafeOnce_X12_kind : GoodIn wsX12_isSafeOnce wsX12_kind := goodIn_r _ [6] rfl (by decide +kernel)
set_option maxRecDepth 20000 in
theorem gX12_isSafeOnce_X12_kind : GoodIn wsX12_isSafeOnce (va_wsS RX12 136 yX12_kind wsX12_kind) := goodIn_app (goodIn_of _ (by decide +kernel)) ggX12_isSafeOnce_X12_kind
set_option maxRecDepth 20000 in
theorem ggX12_isSafeOnce_X12_isInCheck : GoodIn wsX12_isSafeOnce wsX12_isInCheck := goodIn_r2 cbX12_isSafeOnce_f _ [(1, 9), (1, 10), (1, 11), (1, 12), (1, 4), (1, 13), (1, 0), (1, 14), (1, 15), (1, 16), (1, 17), (1, 18), (1, 19), (1, 20), (1, 21), (1, 22), (1, 23), (2, 0), (2, 1), (2, 2), (2, 3), (2, 4), (3, 0), (3, 1), (3, 2), (3, 3), (3, 4), (3, 5), (3, 6), (3, 7), (3, 8), (3, 9), (3, 10), (3, 11), (3, 12), (3, 13), (3, 14), (3, 15), (3, 16), (3, 17), (3, 18), (3, 19), (3, 20), (3, 21), (3, 22), (3, 23), (3, 24), (3, 25), (3, 26), (3, 27), (3, 28), (3, 29), (3, 30), (3, 31), (3, 32), (3, 33), (3, 34), (3, 35), (3, 36), (3, 37), (3, 38), (3, 39)] rfl (by decide +kernel)
set_option maxRecDepth 20000 in
theorem gX12_isSafeOnce_X12_isInCheck : GoodIn wsX12_isSafeOnce (wsV RX12 152 RX12 yX12_isInCheck wsX12_isInCheck) := goodIn_app (goodIn_of _ (by decide +kernel)) ggX12_isSafeOnce_X12_isInCheck
set_option maxRecDepth 20000 in
theorem ggX12_apartOf_X12_kind : GoodIn wsX12_apartOf wsX12_kind := goodIn_r _ [7] rfl (by decide +kernel)
set_option maxRecDepth 20000 in
theorem gX12_apartOf_X12_kind : GoodIn wsX12_apartOf (va_wsS RX12 136 yX12_kind wsX12_kind) := goodIn_app (goodIn_of _ (by decide +kernel)) ggX12_apartOf_X12_kind
set_option maxRecDepth 20000 in
theorem ggX12_apartOf_X12_isTaking : GoodIn wsX12_apartOf wsX12_isTaking := goodIn_r _ [11, 1, 4, 5, 6, 7, 12, 13, 14, 15, 16, 17, 18, 19, 20, 21, 22, 23, 24, 25, 26, 27, 28, 29, 30, 31, 32, 33, 34, 35, 36, 37, 38, 39, 40, 41, 42, 43, 44, 45, 46, 47, 48, 49, 50, 51] rfl (by decide +kernel)
set_option maxRecDepth 20000 in
theorem gX12_apartOf_X12_isTaking : GoodIn wsX12_apartOf (wsV RX12 139 RX12 yX12_isTaking wsX12_isTaking) := goodIn_app (goodIn_of _ (by decide +kernel)) ggX12_apartOf_X12_isTaking
set_option maxRecDepth 20000 in
theorem ggX12_spellWhole_X12_apartOf : GoodIn wsX12_spellWhole wsX12_apartOf := goodIn_r2 cbX12_spellWhole_f _ [(1, 4), (1, 5), (1, 6), (1, 7), (1, 8), (1, 9), (1, 3), (1, 10), (1, 11), (1, 12), (1, 13), (1, 14), (6, 0), (6, 1), (6, 2), (6, 3), (6, 4), (6, 5), (6, 6), (6, 7), (6, 8), (6, 9), (6, 10), (6, 11), (6, 12), (6, 13), (6, 14), (6, 15), (6, 16), (6, 17), (6, 18), (6, 19), (6, 20), (6, 21), (6, 22), (6, 23), (6, 24), (6, 25), (6, 26), (6, 27), (6, 28), (6, 29), (6, 30), (6, 31), (6, 32), (6, 33), (6, 34), (6, 35), (6, 36), (6, 37), (6, 38), (6, 39)] rfl (by decide +kernel)
set_option maxRecDepth 20000 in
theorem gX12_spellWhole_X12_apartOf : GoodIn wsX12_spellWhole (wsV RX12 211 RX12 yX12_apartOf wsX12_apartOf) := goodIn_app (goodIn_of _ (by decide +kernel)) ggX12_spellWhole_X12_apartOf
set_option maxRecDepth 20000 in
theorem ggX12_spellWhole_X12_isTaking : GoodIn wsX12_spellWhole wsX12_isTaking := goodIn_r2 cbX12_spellWhole_f _ [(1, 14), (1, 5), (1, 8), (1, 9), (1, 3), (1, 10), (6, 0), (6, 1), (6, 2), (6, 3), (6, 4), (6, 5), (6, 6), (6, 7), (6, 8), (6, 9), (6, 10), (6, 11), (6, 12), (6, 13), (6, 14), (6, 15), (6, 16), (6, 17), (6, 18), (6, 19), (6, 20), (6, 21), (6, 22), (6, 23), (6, 24), (6, 25), (6, 26), (6, 27), (6, 28), (6, 29), (6, 30), (6, 31), (6, 32), (6, 33), (6, 34), (6, 35), (6, 36), (6, 37), (6, 38), (6, 39)] rfl (by decide +kernel)
set_option maxRecDepth 20000 in
theorem gX12_spellWhole_X12_isTaking : GoodIn wsX12_spellWhole (wsV RX12 139 RX12 yX12_isTaking wsX12_isTaking) := goodIn_app (goodIn_of _ (by decide +kernel)) ggX12_spellWhole_X12_isTaking
set_option maxRecDepth 20000 in
theorem ggX12_spellWhole_X12_spellMove : GoodIn wsX12_spellWhole wsX12_spellMove := goodIn_r2 cbX12_spellWhole_f _ [(1, 18), (1, 19), (1, 5), (1, 20), (1, 21), (1, 22), (1, 3), (1, 23), (1, 8), (1, 9), (1, 10), (2, 0), (2, 1), (2, 2), (2, 3), (2, 4), (2, 5), (2, 6), (2, 7), (2, 8), (2, 9), (2, 10), (2, 11), (6, 0), (6, 1), (6, 2), (6, 3), (6, 4), (6, 5), (6, 6), (6, 7), (6, 8), (6, 9), (6, 10), (6, 11), (6, 12), (6, 13), (6, 14), (6, 15), (6, 16), (6, 17), (6, 18), (6, 19), (6, 20), (6, 21), (6, 22), (6, 23), (6, 24), (6, 25), (6, 26), (6, 27), (6, 28), (6, 29), (6, 30), (6, 31), (6, 32), (6, 33), (6, 34), (6, 35), (6, 36), (6, 37), (6, 38), (6, 39)] rfl (by decide +kernel)
set_option maxRecDepth 20000 in
theorem gX12_spellWhole_X12_spellMove : GoodIn wsX12_spellWhole (wsV RX12 214 RX12 yX12_spellMove wsX12_spellMove) := goodIn_app (goodIn_of _ (by decide +kernel)) ggX12_spellWhole_X12_spellMove
set_option maxRecDepth 20000 in
theorem ggX12_spellWhole_X12_behind : GoodIn wsX12_spellWhole wsX12_behind := goodIn_r2 cbX12_spellWhole_f _ [(2, 15), (2, 16), (2, 17), (2, 18), (2, 19), (1, 3), (2, 20), (2, 21), (1, 5), (2, 22), (2, 23), (3, 0), (3, 1), (3, 2), (3, 3), (3, 4), (3, 5), (3, 6), (1, 8), (1, 9), (1, 10), (1, 11), (1, 12), (1, 13), (1, 14), (3, 7), (3, 8), (3, 9), (3, 10), (3, 11), (3, 12), (3, 13), (3, 14), (3, 15), (3, 16), (3, 17), (3, 18), (3, 19), (3, 20), (3, 21), (3, 22), (3, 23), (4, 0), (4, 1), (4, 2), (4, 3), (4, 4), (4, 5), (4, 6), (4, 7), (4, 8), (4, 9), (4, 10), (4, 11), (4, 12), (4, 13), (4, 14), (4, 15), (4, 16), (4, 17), (4, 18), (4, 19), (4, 20), (4, 21), (4, 22), (4, 23), (5, 0), (5, 1), (5, 2), (5, 3), (5, 4), (5, 5), (5, 6), (5, 7), (5, 8), (5, 9), (5, 10), (5, 11), (5, 12), (6, 0), (6, 1), (6, 2), (6, 3), (6, 4), (6, 5), (6, 6), (6, 7), (6, 8), (6, 9), (6, 10), (6, 11), (6, 12), (6, 13), (6, 14), (6, 15), (6, 16), (6, 17), (6, 18), (6, 19), (6, 20), (6, 21), (6, 22), (6, 23), (6, 24), (6, 25), (6, 26), (6, 27), (6, 28), (6, 29), (6, 30), (6, 31), (6, 32), (6, 33), (6, 34), (6, 35), (6, 36), (6, 37), (6, 38), (6, 39)] rfl (by decide +kernel)
set_option maxRecDepth 20000 in
theorem gX12_spellWhole_X12_behind : GoodIn wsX12_spellWhole (wsV RX12 218 RX12 yX12_behind wsX12_behind) := goodIn_app (goodIn_of _ (by decide +kernel)) ggX12_spellWhole_X12_behind
