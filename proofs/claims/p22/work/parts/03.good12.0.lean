set_option maxRecDepth 20000 in
theorem ggX12_init_X12_clearGame : GoodIn wsX12_init wsX12_clearGame := goodIn_r _ [37, 9, 21, 26, 10, 11, 38, 39, 40, 36, 41, 12, 13, 14, 16, 133, 134, 135, 136, 137, 138, 139, 140, 141, 142, 143, 144, 145, 146, 147, 148, 149, 150, 151, 152, 153, 154, 155, 156, 157, 158, 159, 160, 161, 162, 163, 164, 165, 166, 167, 168, 169, 170, 171, 172] rfl (by decide +kernel)
set_option maxRecDepth 20000 in
theorem gX12_init_X12_clearGame : GoodIn wsX12_init (wsV RX12 88 RX12 yX12_clearGame wsX12_clearGame) := goodIn_app (goodIn_of _ (by decide +kernel)) ggX12_init_X12_clearGame
set_option maxRecDepth 20000 in
theorem ggX12_init_X12_usual : GoodIn wsX12_init wsX12_usual := goodIn_r _ [45, 27, 46, 47, 48, 49, 50, 51, 52, 53, 36, 54, 19, 20, 133, 134, 135, 136, 137, 138, 139, 140, 141, 142, 143, 144, 145, 146, 147, 148, 149, 150, 151, 152, 153, 154, 155, 156, 157, 158, 159, 160, 161, 162, 163, 164, 165, 166, 167, 168, 169, 170, 171, 172] rfl (by decide +kernel)
set_option maxRecDepth 20000 in
theorem gX12_init_X12_usual : GoodIn wsX12_init (wsV RX12 92 RX12 yX12_usual wsX12_usual) := goodIn_app (goodIn_of _ (by decide +kernel)) ggX12_init_X12_usual
set_option maxRecDepth 20000 in
theorem ggX12_init_X12_place : GoodIn wsX12_init wsX12_place := goodIn_r _ [58, 31, 10, 27, 19, 20, 46, 47, 48, 49, 50, 11, 59, 60, 61, 36, 62, 63, 64, 65, 66, 67, 68, 69, 70, 71, 72, 73, 74, 75, 76, 77, 78, 79, 80, 81, 82, 83, 84, 85, 30, 86, 87, 88, 89, 90, 91, 92, 93, 94, 95, 96, 97, 98, 99, 100, 101, 102, 103, 104, 105, 106, 107, 108, 109, 110, 111, 112, 113, 114, 115, 116, 117, 118, 119, 120, 28, 29, 121, 122, 123, 124, 125, 126, 127, 128, 129, 130, 131, 132, 133, 134, 135, 136, 137, 138, 139, 140, 141, 142, 143, 144, 145, 146, 147, 148, 149, 150, 151, 152, 153, 154, 155, 156, 157, 158, 159, 160, 161, 162, 163, 164, 165, 166, 167, 168, 169, 170, 171, 172] rfl (by decide +kernel)
set_option maxRecDepth 20000 in
theorem gX12_init_X12_place : GoodIn wsX12_init (wsV RX12 95 RX12 yX12_place wsX12_place) := goodIn_app (goodIn_of _ (by decide +kernel)) ggX12_init_X12_place
set_option maxRecDepth 20000 in
theorem ggX12_met_X12_step : GoodIn wsX12_met wsX12_step := goodIn_r _ [5] rfl (by decide +kernel)
set_option maxRecDepth 20000 in
theorem gX12_met_X12_step : GoodIn wsX12_met (va_wsS RX12 103 yX12_step wsX12_step) := goodIn_app (goodIn_of _ (by decide +kernel)) ggX12_met_X12_step
set_option maxRecDepth 20000 in
theorem ggX12_isAttacked_X12_step : GoodIn wsX12_isAttacked wsX12_step := goodIn_r _ [4] rfl (by decide +kernel)
set_option maxRecDepth 20000 in
theorem gX12_isAttacked_X12_step : GoodIn wsX12_isAttacked (va_wsS RX12 103 yX12_step wsX12_step) := goodIn_app (goodIn_of _ (by decide +kernel)) ggX12_isAttacked_X12_step
set_option maxRecDepth 20000 in
theorem ggX12_isAttacked_X12_stands : GoodIn wsX12_isAttacked wsX12_stands := goodIn_r _ [8, 9, 14, 15, 16, 17, 18, 19, 20, 21, 22, 23, 24, 25, 26, 27, 28, 29, 30, 31, 32, 33, 34, 35, 36, 37, 38, 39, 40, 41, 42, 43, 44, 45, 46, 47, 48, 49, 50, 51, 52, 53] rfl (by decide +kernel)
set_option maxRecDepth 20000 in
theorem gX12_isAttacked_X12_stands : GoodIn wsX12_isAttacked (wsV RX12 107 RX12 yX12_stands wsX12_stands) := goodIn_app (goodIn_of _ (by decide +kernel)) ggX12_isAttacked_X12_stands
set_option maxRecDepth 20000 in
theorem ggX12_isAttacked_X12_met : GoodIn wsX12_isAttacked wsX12_met := goodIn_r _ [13, 9, 1, 2, 3, 4, 14, 15, 16, 17, 18, 19, 20, 21, 22, 23, 24, 25, 26, 27, 28, 29, 30, 31, 32, 33, 34, 35, 36, 37, 38, 39, 40, 41, 42, 43, 44, 45, 46, 47, 48, 49, 50, 51, 52, 53] rfl (by decide +kernel)
set_option maxRecDepth 20000 in
theorem gX12_isAttacked_X12_met : GoodIn wsX12_isAttacked (wsV RX12 111 RX12 yX12_met wsX12_met) := goodIn_app (goodIn_of _ (by decide +kernel)) ggX12_isAttacked_X12_met
set_option maxRecDepth 20000 in
theorem ggX12_isInCheck_X12_kingOf : GoodIn wsX12_isInCheck wsX12_kingOf := goodIn_r _ [5, 6, 22, 23, 24, 25, 26, 27, 28, 29, 30, 31, 32, 33, 34, 35, 36, 37, 38, 39, 40, 41, 42, 43, 44, 45, 46, 47, 48, 49, 50, 51, 52, 53, 54, 55, 56, 57, 58, 59, 60, 61] rfl (by decide +kernel)
set_option maxRecDepth 20000 in
theorem gX12_isInCheck_X12_kingOf : GoodIn wsX12_isInCheck (wsV RX12 114 RX12 yX12_kingOf wsX12_kingOf) := goodIn_app (goodIn_of _ (by decide +kernel)) ggX12_isInCheck_X12_kingOf
set_option maxRecDepth 20000 in
theorem ggX12_isInCheck_X12_isAttacked : GoodIn wsX12_isInCheck wsX12_isAttacked := goodIn_r _ [10, 11, 12, 4, 13, 14, 15, 16, 17, 6, 18, 19, 20, 21, 22, 23, 24, 25, 26, 27, 28, 29, 30, 31, 32, 33, 34, 35, 36, 37, 38, 39, 40, 41, 42, 43, 44, 45, 46, 47, 48, 49, 50, 51, 52, 53, 54, 55, 56, 57, 58, 59, 60, 61] rfl (by decide +kernel)
set_option maxRecDepth 20000 in
theorem gX12_isInCheck_X12_isAttacked : GoodIn wsX12_isInCheck (wsV RX12 118 RX12 yX12_isAttacked wsX12_isAttacked) := goodIn_app (goodIn_of _ (by decide +kernel)) ggX12_isInCheck_X12_isAttacked
set_option maxRecDepth 20000 in
theorem ggX12_isTaking_X12_kind : GoodIn wsX12_isTaking wsX12_kind := goodIn_r _ [5] rfl (by decide +kernel)
set_option maxRecDepth 20000 in
theorem gX12_isTaking_X12_kind : GoodIn wsX12_isTaking (va_wsS RX12 136 yX12_kind wsX12_kind) := goodIn_app (goodIn_of _ (by decide +kernel)) ggX12_isTaking_X12_kind
set_option maxRecDepth 20000 in
theorem ggX12_make_X12_kind : GoodIn wsX12_make wsX12_kind := goodIn_r _ [9] rfl (by decide +kernel)
set_option maxRecDepth 20000 in
theorem gX12_make_X12_kind : GoodIn wsX12_make (va_wsS RX12 136 yX12_kind wsX12_kind) := goodIn_app (goodIn_of _ (by decide +kernel)) ggX12_make_X12_kind
set_option maxRecDepth 20000 in
theorem ggX12_make_X12_isTaking : GoodIn wsX12_make wsX12_isTaking := goodIn_r _ [13, 1, 6, 7, 8, 9, 26, 27, 28, 29, 30, 31, 32, 33, 34, 35, 36, 37, 38, 39, 40, 41, 42, 43, 44, 45, 46, 47, 48, 49, 50, 51, 52, 53, 54, 55, 56, 57, 58, 59, 60, 61, 62, 63, 64, 65] rfl (by decide +kernel)
set_option maxRecDepth 20000 in
theorem gX12_make_X12_isTaking : GoodIn wsX12_make (wsV RX12 139 RX12 yX12_isTaking wsX12_isTaking) := goodIn_app (goodIn_of _ (by decide +kernel)) ggX12_make_X12_isTaking
set_option maxRecDepth 20000 in
theorem ggX12_make_X12_lose : GoodIn wsX12_make wsX12_lose := goodIn_r _ [17, 18, 26, 27, 28, 29, 30, 31, 32, 33, 34, 35, 36, 37, 38, 39, 40, 41, 42, 43, 44, 45, 46, 47, 48, 49, 50, 51, 52, 53, 54, 55, 56, 57, 58, 59, 60, 61, 62, 63, 64, 65] rfl (by decide +kernel)
set_option maxRecDepth 20000 in
theorem gX12_make_X12_lose : GoodIn wsX12_make (wsV RX12 143 RX12 yX12_lose wsX12_lose) := goodIn_app (goodIn_of _ (by decide +kernel)) ggX12_make_X12_lose
set_option maxRecDepth 20000 in
theorem ggX12_make_X12_step : GoodIn wsX12_make wsX12_step := goodIn_r _ [21] rfl (by decide +kernel)
set_option maxRecDepth 20000 in
theorem gX12_make_X12_step : GoodIn wsX12_make (va_wsS RX12 103 yX12_step wsX12_step) := goodIn_app (goodIn_of _ (by decide +kernel)) ggX12_make_X12_step
set_option maxRecDepth 20000 in
theorem ggX12_make_X12_stands : GoodIn wsX12_make wsX12_stands := goodIn_r _ [25, 1, 26, 27, 28, 29, 30, 31, 32, 33, 34, 35, 36, 37, 38, 39, 40, 41, 42, 43, 44, 45, 46, 47, 48, 49, 50, 51, 52, 53, 54, 55, 56, 57, 58, 59, 60, 61, 62, 63, 64, 65] rfl (by decide +kernel)
set_option maxRecDepth 20000 in
theorem gX12_make_X12_stands : GoodIn wsX12_make (wsV RX12 107 RX12 yX12_stands wsX12_stands) := goodIn_app (goodIn_of _ (by decide +kernel)) ggX12_make_X12_stands
set_option maxRecDepth 20000 in
theorem ggX12_isSafe_X12_keep : GoodIn wsX12_isSafe wsX12_keep := goodIn_r _ [6, 7, 8, 9, 1, 10, 11, 12, 13, 56, 57, 58, 59, 60, 61, 62, 63, 64, 65, 66, 67, 68, 69, 70, 71, 72, 73, 74, 75, 76, 77, 78, 79, 80, 81, 82, 83, 84, 85, 86, 87, 88, 89, 90, 91, 92, 93, 94, 95] rfl (by decide +kernel)
set_option maxRecDepth 20000 in
theorem gX12_isSafe_X12_keep : GoodIn wsX12_isSafe (wsV RX12 146 RX12 yX12_keep wsX12_keep) := goodIn_app (goodIn_of _ (by decide +kernel)) ggX12_isSafe_X12_keep
set_option maxRecDepth 20000 in
theorem ggX12_isSafe_X12_make : GoodIn wsX12_isSafe wsX12_make := goodIn_r _ [17, 8, 12, 1, 11, 13, 18, 19, 5, 20, 21, 22, 23, 24, 25, 26, 27, 28, 10, 29, 30, 31, 32, 33, 34, 35, 56, 57, 58, 59, 60, 61, 62, 63, 64, 65, 66, 67, 68, 69, 70, 71, 72, 73, 74, 75, 76, 77, 78, 79, 80, 81, 82, 83, 84, 85, 86, 87, 88, 89, 90, 91, 92, 93, 94, 95] rfl (by decide +kernel)
set_option maxRecDepth 20000 in
theorem gX12_isSafe_X12_make : GoodIn wsX12_isSafe (wsV RX12 149 RX12 yX12_make wsX12_make) := goodIn_app (goodIn_of _ (by decide +kernel)) ggX12_isSafe_X12_make
set_option maxRecDepth 20000 in
theorem ggX12_isSafe_X12_isInCheck : GoodIn wsX12_isSafe wsX12_isInCheck := goodIn_r _ [39, 40, 41, 42, 5, 43, 8, 44, 45, 46, 47, 29, 30, 31, 32, 33, 34, 35, 48, 49, 50, 51, 56, 57, 58, 59, 60, 61, 62, 63, 64, 65, 66, 67, 68, 69, 70, 71, 72, 73, 74, 75, 76, 77, 78, 79, 80, 81, 82, 83, 84, 85, 86, 87, 88, 89, 90, 91, 92, 93, 94, 95] rfl (by decide +kernel)
set_option maxRecDepth 20000 in
theorem gX12_isSafe_X12_isInCheck : GoodIn wsX12_isSafe (wsV RX12 152 RX12 yX12_isInCheck wsX12_isInCheck) := goodIn_app (goodIn_of _ (by decide +kernel)) ggX12_isSafe_X12_isInCheck
set_option maxRecDepth 20000 in
theorem ggX12_isSafe_X12_bringBack : GoodIn wsX12_isSafe wsX12_bringBack := goodIn_r _ [55, 8, 7, 9, 1, 10, 11, 12, 13, 56, 57, 58, 59, 60, 61, 62, 63, 64, 65, 66, 67, 68, 69, 70, 71, 72, 73, 74, 75, 76, 77, 78, 79, 80, 81, 82, 83, 84, 85, 86, 87, 88, 89, 90, 91, 92, 93, 94, 95] rfl (by decide +kernel)
set_option maxRecDepth 20000 in
theorem gX12_isSafe_X12_bringBack : GoodIn wsX12_isSafe (wsV RX12 155 RX12 yX12_bringBack wsX12_bringBack) := goodIn_app (goodIn_of _ (by decide +kernel)) ggX12_isSafe_X12_bringBack
set_option maxRecDepth 20000 in
theorem ggX12_mayCastle_X12_isClear : GoodIn wsX12_mayCastle wsX12_isClear := goodIn_r _ [7, 8, 24, 25, 26, 27, 28, 29, 30, 31, 32, 33, 34, 35, 36, 37, 38, 39, 40, 41, 42, 43, 44, 45, 46, 47, 48, 49, 50, 51, 52, 53, 54, 55, 56, 57, 58, 59, 60, 61, 62, 63] rfl (by decide +kernel)
set_option maxRecDepth 20000 in
theorem gX12_mayCastle_X12_isClear : GoodIn wsX12_mayCastle (wsV RX12 158 RX12 yX12_isClear wsX12_isClear) := goodIn_app (goodIn_of _ (by decide +kernel)) ggX12_mayCastle_X12_isClear
set_option maxRecDepth 20000 in
theorem ggX12_mayCastle_X12_isAttacked : GoodIn wsX12_mayCastle wsX12_isAttacked := goodIn_r _ [12, 13, 14, 6, 15, 16, 17, 18, 19, 8, 20, 21, 22, 23, 24, 25, 26, 27, 28, 29, 30, 31, 32, 33, 34, 35, 36, 37, 38, 39, 40, 41, 42, 43, 44, 45, 46, 47, 48, 49, 50, 51, 52, 53, 54, 55, 56, 57, 58, 59, 60, 61, 62, 63] rfl (by decide +kernel)
set_option maxRecDepth 20000 in
theorem gX12_mayCastle_X12_isAttacked : GoodIn wsX12_mayCastle (wsV RX12 118 RX12 yX12_isAttacked wsX12_isAttacked) := goodIn_app (goodIn_of _ (by decide +kernel)) ggX12_mayCastle_X12_isAttacked
set_option maxRecDepth 20000 in
theorem ggX12_pawnGoes_X12_sideOf : GoodIn wsX12_pawnGoes wsX12_sideOf := goodIn_r _ [7] rfl (by decide +kernel)
set_option maxRecDepth 20000 in
theorem gX12_pawnGoes_X12_sideOf : GoodIn wsX12_pawnGoes (va_wsS RX12 161 yX12_sideOf wsX12_sideOf) := goodIn_app (goodIn_of _ (by decide +kernel)) ggX12_pawnGoes_X12_sideOf
set_option maxRecDepth 20000 in
theorem ggX12_goes_X12_sideOf : GoodIn wsX12_goes wsX12_sideOf := goodIn_r _ [6] rfl (by decide +kernel)
set_option maxRecDepth 20000 in
theorem gX12_goes_X12_sideOf : GoodIn wsX12_goes (va_wsS RX12 161 yX12_sideOf wsX12_sideOf) := goodIn_app (goodIn_of _ (by decide +kernel)) ggX12_goes_X12_sideOf
set_option maxRecDepth 20000 in
theorem ggX12_goes_X12_kind : GoodIn wsX12_goes wsX12_kind := goodIn_r _ [9] rfl (by decide +kernel)
set_option maxRecDepth 20000 in
theorem gX12_goes_X12_kind : GoodIn wsX12_goes (va_wsS RX12 136 yX12_kind wsX12_kind) := goodIn_app (goodIn_of _ (by decide +kernel)) ggX12_goes_X12_kind
set_option maxRecDepth 20000 in
theorem ggX12_goes_X12_pawnGoes : GoodIn wsX12_goes wsX12_pawnGoes := goodIn_r _ [13, 2, 1, 14, 3, 4, 5, 6, 39, 40, 41, 42, 43, 44, 45, 46, 47, 48, 49, 50, 51, 52, 53, 54, 55, 56, 57, 58, 59, 60, 61, 62, 63, 64, 65, 66, 67, 68, 69, 70, 71, 72, 73, 74, 75, 76, 77, 78] rfl (by decide +kernel)
set_option maxRecDepth 20000 in
theorem gX12_goes_X12_pawnGoes : GoodIn wsX12_goes (wsV RX12 164 RX12 yX12_pawnGoes wsX12_pawnGoes) := goodIn_app (goodIn_of _ (by decide +kernel)) ggX12_goes_X12_pawnGoes
set_option maxRecDepth 20000 in
theorem ggX12_goes_X12_mayCastle : GoodIn wsX12_goes wsX12_mayCastle := goodIn_r _ [18, 2, 19, 20, 21, 22, 5, 23, 1, 24, 25, 26, 27, 28, 29, 30, 31, 32, 33, 34, 35, 36, 37, 38, 39, 40, 41, 42, 43, 44, 45, 46, 47, 48, 49, 50, 51, 52, 53, 54, 55, 56, 57, 58, 59, 60, 61, 62, 63, 64, 65, 66, 67, 68, 69, 70, 71, 72, 73, 74, 75, 76, 77, 78] rfl (by decide +kernel)
set_option maxRecDepth 20000 in
theorem gX12_goes_X12_mayCastle : GoodIn wsX12_goes (wsV RX12 167 RX12 yX12_mayCastle wsX12_mayCastle) := goodIn_app (goodIn_of _ (by decide +kernel)) ggX12_goes_X12_mayCastle
set_option maxRecDepth 20000 in
theorem ggX12_goes_X12_step : GoodIn wsX12_goes wsX12_step := goodIn_r _ [30] rfl (by decide +kernel)
set_option maxRecDepth 20000 in
theorem gX12_goes_X12_step : GoodIn wsX12_goes (va_wsS RX12 103 yX12_step wsX12_step) := goodIn_app (goodIn_of _ (by decide +kernel)) ggX12_goes_X12_step
set_option maxRecDepth 20000 in
theorem ggX12_findMoves_X12_sideOf : GoodIn wsX12_findMoves wsX12_sideOf := goodIn_r _ [8] rfl (by decide +kernel)
set_option maxRecDepth 20000 in
theorem gX12_findMoves_X12_sideOf : GoodIn wsX12_findMoves (va_wsS RX12 161 yX12_sideOf wsX12_sideOf) := goodIn_app (goodIn_of _ (by decide +kernel)) ggX12_findMoves_X12_sideOf
set_option maxRecDepth 20000 in
theorem ggX12_findMoves_X12_goes : GoodIn wsX12_findMoves wsX12_goes := goodIn_r _ [12, 2, 3, 5, 6, 7, 8, 13, 14, 15, 16, 17, 18, 19, 20, 21, 22, 23, 24, 25, 26, 27, 28, 29, 30, 31, 32, 33, 34, 35, 36, 37, 38, 39, 40, 41, 42, 43, 44, 81, 82, 83, 84, 85, 86, 87, 88, 89, 90, 91, 92, 93, 94, 95, 96, 97, 98, 99, 100, 101, 102, 103, 104, 105, 106, 107, 108, 109, 110, 111, 112, 113, 114, 115, 116, 117, 118, 119, 120] rfl (by decide +kernel)
set_option maxRecDepth 20000 in
theorem gX12_findMoves_X12_goes : GoodIn wsX12_findMoves (wsV RX12 173 RX12 yX12_goes wsX12_goes) := goodIn_app (goodIn_of _ (by decide +kernel)) ggX12_findMoves_X12_goes
set_option maxRecDepth 20000 in
theorem ggX12_findMoves_X12_kind : GoodIn wsX12_findMoves wsX12_kind := goodIn_r _ [15] rfl (by decide +kernel)
set_option maxRecDepth 20000 in
theorem gX12_findMoves_X12_kind : GoodIn wsX12_findMoves (va_wsS RX12 136 yX12_kind wsX12_kind) := goodIn_app (goodIn_of _ (by decide +kernel)) ggX12_findMoves_X12_kind
set_option maxRecDepth 20000 in
theorem ggX12_findMoves_X12_isSafe : GoodIn wsX12_findMoves wsX12_isSafe := goodIn_r _ [48, 3, 49, 50, 51, 7, 52, 53, 2, 54, 25, 20, 55, 56, 57, 58, 59, 60, 13, 14, 15, 61, 62, 63, 64, 65, 66, 67, 68, 34, 35, 36, 37, 38, 39, 40, 69, 70, 71, 72, 73, 74, 75, 76, 30, 31, 32, 33, 41, 42, 43, 44, 77, 78, 79, 80, 81, 82, 83, 84, 85, 86, 87, 88, 89, 90, 91, 92, 93, 94, 95, 96, 97, 98, 99, 100, 101, 102, 103, 104, 105, 106, 107, 108, 109, 110, 111, 112, 113, 114, 115, 116, 117, 118, 119, 120] rfl (by decide +kernel)
set_option maxRecDepth 20000 in
theorem gX12_findMoves_X12_isSafe : GoodIn wsX12_findMoves (wsV RX12 176 RX12 yX12_isSafe wsX12_isSafe) := goodIn_app (goodIn_of _ (by decide +kernel)) ggX12_findMoves_X12_isSafe
set_option maxRecDepth 20000 in
theorem ggX12_clearGame_X12_clearNode : GoodIn wsX12_clearGame wsX12_clearNode := goodIn_r _ [10, 11, 12, 13, 14, 15, 16, 17, 18, 19, 20, 21, 22, 23, 24, 25, 26, 27, 28, 29, 30, 31, 32, 33, 34, 35, 36, 37, 38, 39, 40, 41, 42, 43, 44, 45, 46, 47, 48, 49, 50, 51, 52, 53, 54] rfl (by decide +kernel)
set_option maxRecDepth 20000 in
theorem gX12_clearGame_X12_clearNode : GoodIn wsX12_clearGame (wsV RX12 179 RX12 yX12_clearNode wsX12_clearNode) := goodIn_app (goodIn_of _ (by decide +kernel)) ggX12_clearGame_X12_clearNode
set_option maxRecDepth 20000 in
theorem ggX12_usual_X12_start : GoodIn wsX12_usual wsX12_start := goodIn_r _ [11, 12, 1, 13, 2, 3, 4, 5, 6, 14, 15, 16, 17, 18, 19, 20, 21, 22, 23, 24, 25, 26, 27, 28, 29, 30, 31, 32, 33, 34, 35, 36, 37, 38, 39, 40, 41, 42, 43, 44, 45, 46, 47, 48, 49, 50, 51, 52, 53] rfl (by decide +kernel)
set_option maxRecDepth 20000 in
theorem gX12_usual_X12_start : GoodIn wsX12_usual (wsV RX12 182 RX12 yX12_start wsX12_start) := goodIn_app (goodIn_of _ (by decide +kernel)) ggX12_usual_X12_start
set_option maxRecDepth 20000 in
theorem ggX12_place_X12_make : GoodIn wsX12_place wsX12_make := goodIn_r _ [16, 3, 9, 6, 8, 10, 17, 18, 15, 19, 20, 21, 22, 23, 24, 25, 26, 27, 7, 28, 29, 30, 31, 32, 33, 34, 90, 91, 92, 93, 94, 95, 96, 97, 98, 99, 100, 101, 102, 103, 104, 105, 106, 107, 108, 109, 110, 111, 112, 113, 114, 115, 116, 117, 118, 119, 120, 121, 122, 123, 124, 125, 126, 127, 128, 129] rfl (by decide +kernel)
set_option maxRecDepth 20000 in
theorem gX12_place_X12_make : GoodIn wsX12_place (wsV RX12 149 RX12 yX12_make wsX12_make) := goodIn_app (goodIn_of _ (by decide +kernel)) ggX12_place_X12_make
set_option maxRecDepth 20000 in
theorem ggX12_place_X12_findMoves : GoodIn wsX12_place wsX12_findMoves := goodIn_r _ [38, 39, 3, 6, 40, 41, 42, 15, 43, 44, 45, 46, 47, 17, 18, 19, 48, 49, 50, 51, 8, 52, 53, 54, 55, 7, 56, 57, 58, 59, 60, 61, 62, 63, 28, 29, 30, 31, 32, 33, 34, 64, 65, 66, 67, 68, 69, 70, 71, 72, 73, 74, 75, 76, 77, 9, 10, 12, 13, 14, 16, 20, 21, 22, 23, 24, 25, 26, 27, 78, 79, 80, 81, 82, 83, 84, 85, 86, 87, 88, 89, 90, 91, 92, 93, 94, 95, 96, 97, 98, 99, 100, 101, 102, 103, 104, 105, 106, 107, 108, 109, 110, 111, 112, 113, 114, 115, 116, 117, 118, 119, 120, 121, 122, 123, 124, 125, 126, 127, 128, 129] rfl (by decide +kernel)
set_option maxRecDepth 20000 in
theorem gX12_place_X12_findMoves : GoodIn wsX12_place (wsV RX12 185 RX12 yX12_findMoves wsX12_findMoves) := goodIn_app (goodIn_of _ (by decide +kernel)) ggX12_place_X12_findMoves
set_option maxRecDepth 20000 in
theorem ggX12_append_X12_clearNode : GoodIn wsX12_append wsX12_clearNode := goodIn_r _ [10, 4, 5, 11, 12, 13, 14, 15, 16, 17, 18, 19, 20, 21, 22, 23, 24, 25, 26, 27, 28, 29, 30, 31, 32, 33, 34, 35, 36, 37, 38, 39, 40, 41, 42, 43, 44, 45, 46, 47, 48, 49, 50, 51, 52] rfl (by decide +kernel)
set_option maxRecDepth 20000 in
theorem gX12_append_X12_clearNode : GoodIn wsX12_append (wsV RX12 179 RX12 yX12_clearNode wsX12_clearNode) := goodIn_app (goodIn_of _ (by decide +kernel)) ggX12_append_X12_clearNode
set_option maxRecDepth 20000 in
theorem ggX12_deepOf_X12_isFirst : GoodIn wsX12_deepOf wsX12_isFirst := goodIn_r _ [6, 7, 1, 8, 9, 10, 11, 12, 13, 14, 15, 16, 17, 18, 19, 20, 21, 22, 23, 24, 25, 26, 27, 28, 29, 30, 31, 32, 33, 34, 35, 36, 37, 38, 39, 40, 41, 42, 43, 44, 45, 46, 47] rfl (by decide +kernel)
set_option maxRecDepth 20000 in
theorem gX12_deepOf_X12_isFirst : GoodIn wsX12_deepOf (wsV RX12 188 RX12 yX12_isFirst wsX12_isFirst) := goodIn_app (goodIn_of _ (by decide +kernel)) ggX12_deepOf_X12_isFirst
set_option maxRecDepth 20000 in
theorem ggX12_spellSquare_X12_spell : GoodIn wsX12_spellSquare wsX12_spell := goodIn_r _ [5, 6, 7, 8, 9, 10, 11, 12, 13, 14, 15, 16, 17, 18, 19, 20, 21, 22, 23, 24, 25, 26, 27, 28, 29, 30, 31, 32, 33, 34, 35, 36, 37, 38, 39, 40, 41, 42, 43, 44, 45, 46, 47] rfl (by decide +kernel)
set_option maxRecDepth 20000 in
theorem gX12_spellSquare_X12_spell : GoodIn wsX12_spellSquare (wsV RX12 194 RX12 yX12_spell wsX12_spell) := goodIn_app (goodIn_of _ (by decide +kernel)) ggX12_spellSquare_X12_spell
set_option maxRecDepth 20000 in
theorem ggX12_isCastling_X12_kind : GoodIn wsX12_isCastling wsX12_kind := goodIn_r _ [5] rfl (by decide +kernel)
set_option maxRecDepth 20000 in
theorem gX12_isCastling_X12_kind : GoodIn wsX12_isCastling (va_wsS RX12 136 yX12_kind wsX12_kind) := goodIn_app (goodIn_of _ (by decide +kernel)) ggX12_isCastling_X12_kind
set_option maxRecDepth 20000 in
theorem ggX12_spellMove_X12_isCastling : GoodIn wsX12_spellMove wsX12_isCastling := goodIn_r _ [7, 2, 8, 9, 6, 10, 23, 24, 25, 26, 27, 28, 29, 30, 31, 32, 33, 34, 35, 36, 37, 38, 39, 40, 41, 42, 43, 44, 45, 46, 47, 48, 49, 50, 51, 52, 53, 54, 55, 56, 57, 58, 59, 60, 61, 62] rfl (by decide +kernel)
set_option maxRecDepth 20000 in
theorem gX12_spellMove_X12_isCastling : GoodIn wsX12_spellMove (wsV RX12 198 RX12 yX12_isCastling wsX12_isCastling) := goodIn_app (goodIn_of _ (by decide +kernel)) ggX12_spellMove_X12_isCastling
set_option maxRecDepth 20000 in
theorem ggX12_spellMove_X12_spell : GoodIn wsX12_spellMove wsX12_spell := goodIn_r _ [14, 15, 1, 23, 24, 25, 26, 27, 28, 29, 30, 31, 32, 33, 34, 35, 36, 37, 38, 39, 40, 41, 42, 43, 44, 45, 46, 47, 48, 49, 50, 51, 52, 53, 54, 55, 56, 57, 58, 59, 60, 61, 62] rfl (by decide +kernel)
set_option maxRecDepth 20000 in
theorem gX12_spellMove_X12_spell : GoodIn wsX12_spellMove (wsV RX12 194 RX12 yX12_spell wsX12_spell) := goodIn_app (goodIn_of _ (by decide +kernel)) ggX12_spellMove_X12_spell
set_option maxRecDepth 20000 in
theorem ggX12_spellMove_X12_kind : GoodIn wsX12_spellMove wsX12_kind := goodIn_r _ [10] rfl (by decide +kernel)
set_option maxRecDepth 20000 in
theorem gX12_spellMove_X12_kind : GoodIn wsX12_spellMove (va_wsS RX12 136 yX12_kind wsX12_kind) := goodIn_app (goodIn_of _ (by decide +kernel)) ggX12_spellMove_X12_kind
set_option maxRecDepth 20000 in
theorem ggX12_spellMove_X12_letter : GoodIn wsX12_spellMove wsX12_letter := goodIn_r _ [18] rfl (by decide +kernel)
set_option maxRecDepth 20000 in
theorem gX12_spellMove_X12_letter : GoodIn wsX12_spellMove (va_wsS RX12 201 yX12_letter wsX12_letter) := goodIn_app (goodIn_of _ (by decide +kernel)) ggX12_spellMove_X12_letter
set_option maxRecDepth 20000 in
theorem ggX12_spellMove_X12_spellSquare : GoodIn wsX12_spellMove wsX12_spellSquare := goodIn_r _ [22, 11, 12, 13, 6, 14, 15, 1, 23, 24, 25, 26, 27, 28, 29, 30, 31, 32, 33, 34, 35, 36, 37, 38, 39, 40, 41, 42, 43, 44, 45, 46, 47, 48, 49, 50, 51, 52, 53, 54, 55, 56, 57, 58, 59, 60, 61, 62] rfl (by decide +kernel)
set_option maxRecDepth 20000 in
theorem gX12_spellMove_X12_spellSquare : GoodIn wsX12_spellMove (wsV RX12 205 RX12 yX12_spellSquare wsX12_spellSquare) := goodIn_app (goodIn_of _ (by decide +kernel)) ggX12_spellMove_X12_spellSquare
set_option maxRecDepth 20000 in
theorem ggX12_behind_X12_keep : GoodIn wsX12_behind wsX12_keep := goodIn_r _ [6, 7, 8, 9, 1, 10, 11, 12, 13, 79, 80, 81, 82, 83, 84, 85, 86, 87, 88, 89, 90, 91, 92, 93, 94, 95, 96, 97, 98, 99, 100, 101, 102, 103, 104, 105, 106, 107, 108, 109, 110, 111, 112, 113, 114, 115, 116, 117, 118] rfl (by decide +kernel)
set_option maxRecDepth 20000 in
theorem gX12_behind_X12_keep : GoodIn wsX12_behind (wsV RX12 146 RX12 yX12_keep wsX12_keep) := goodIn_app (goodIn_of _ (by decide +kernel)) ggX12_behind_X12_keep
set_option maxRecDepth 20000 in
theorem ggX12_behind_X12_make : GoodIn wsX12_behind wsX12_make := goodIn_r _ [17, 8, 12, 1, 11, 13, 18, 19, 5, 20, 21, 22, 23, 24, 25, 26, 27, 28, 10, 29, 30, 31, 32, 33, 34, 35, 79, 80, 81, 82, 83, 84, 85, 86, 87, 88, 89, 90, 91, 92, 93, 94, 95, 96, 97, 98, 99, 100, 101, 102, 103, 104, 105, 106, 107, 108, 109, 110, 111, 112, 113, 114, 115, 116, 117, 118] rfl (by decide +kernel)
set_option maxRecDepth 20000 in
theorem gX12_behind_X12_make : GoodIn wsX12_behind (wsV RX12 149 RX12 yX12_make wsX12_make) := goodIn_app (goodIn_of _ (by decide +kernel)) ggX12_behind_X12_make
set_option maxRecDepth 20000 in
theorem ggX12_behind_X12_isInCheck : GoodIn wsX12_behind wsX12_isInCheck := goodIn_r _ [39, 40, 41, 42, 5, 43, 8, 44, 45, 46, 47, 29, 30, 31, 32, 33, 34, 35, 48, 49, 50, 51, 79, 80, 81, 82, 83, 84, 85, 86, 87, 88, 89, 90, 91, 92, 93, 94, 95, 96, 97, 98, 99, 100, 101, 102, 103, 104, 105, 106, 107, 108, 109, 110, 111, 112, 113, 114, 115, 116, 117, 118] rfl (by decide +kernel)
set_option maxRecDepth 20000 in
theorem gX12_behind_X12_isInCheck : GoodIn wsX12_behind (wsV RX12 152 RX12 yX12_isInCheck wsX12_isInCheck) := goodIn_app (goodIn_of _ (by decide +kernel)) ggX12_behind_X12_isInCheck
set_option maxRecDepth 20000 in
theorem ggX12_behind_X12_goes : GoodIn wsX12_behind wsX12_goes := goodIn_r _ [55, 8, 1, 56, 57, 5, 58, 18, 19, 20, 59, 60, 61, 62, 11, 63, 64, 65, 66, 10, 67, 68, 69, 70, 44, 45, 46, 47, 29, 30, 31, 32, 33, 34, 35, 48, 49, 50, 51, 79, 80, 81, 82, 83, 84, 85, 86, 87, 88, 89, 90, 91, 92, 93, 94, 95, 96, 97, 98, 99, 100, 101, 102, 103, 104, 105, 106, 107, 108, 109, 110, 111, 112, 113, 114, 115, 116, 117, 118] rfl (by decide +kernel)
set_option maxRecDepth 20000 in
theorem gX12_behind_X12_goes : GoodIn wsX12_behind (wsV RX12 173 RX12 yX12_goes wsX12_goes) := goodIn_app (goodIn_of _ (by decide +kernel)) ggX12_behind_X12_goes
set_option maxRecDepth 20000 in
theorem ggX12_behind_X12_isSafeOnce : GoodIn wsX12_behind wsX12_isSafeOnce := goodIn_r _ [74, 8, 1, 18, 19, 5, 20, 36, 37, 38, 39, 40, 41, 42, 43, 44, 45, 46, 47, 29, 30, 31, 32, 33, 34, 35, 48, 49, 50, 51, 79, 80, 81, 82, 83, 84, 85, 86, 87, 88, 89, 90, 91, 92, 93, 94, 95, 96, 97, 98, 99, 100, 101, 102, 103, 104, 105, 106, 107, 108, 109, 110, 111, 112, 113, 114, 115, 116, 117, 118] rfl (by decide +kernel)
set_option maxRecDepth 20000 in
theorem gX12_behind_X12_isSafeOnce : GoodIn wsX12_behind (wsV RX12 208 RX12 yX12_isSafeOnce wsX12_isSafeOnce) := goodIn_app (goodIn_of _ (by decide +kernel)) ggX12_behind_X12_isSafeOnce
set_option maxRecDepth 20000 in
theorem ggX12_behind_X12_bringBack : GoodIn wsX12_behind wsX12_bringBack := goodIn_r _ [78, 8, 7, 9, 1, 10, 11, 12, 13, 79, 80, 81, 82, 83, 84, 85, 86, 87, 88, 89, 90, 91, 92, 93, 94, 95, 96, 97, 98, 99, 100, 101, 102, 103, 104, 105, 106, 107, 108, 109, 110, 111, 112, 113, 114, 115, 116, 117, 118] rfl (by decide +kernel)
set_option maxRecDepth 20000 in
theorem gX12_behind_X12_bringBack : GoodIn wsX12_behind (wsV RX12 155 RX12 yX12_bringBack wsX12_bringBack) := goodIn_app (goodIn_of _ (by decide +kernel)) ggX12_behind_X12_bringBack
set_option maxRecDepth 20000 in
theorem ggX12_isSafeOnce_X12_kind : GoodIn wsX12_isSafeOnce wsX12_kind := goodIn_r _ [6] rfl (by decide +kernel)
set_option maxRecDepth 20000 in
theorem gX12_isSafeOnce_X12_kind : GoodIn wsX12_isSafeOnce (va_wsS RX12 136 yX12_kind wsX12_kind) := goodIn_app (goodIn_of _ (by decide +kernel)) ggX12_isSafeOnce_X12_kind
set_option maxRecDepth 20000 in
theorem ggX12_isSafeOnce_X12_isInCheck : GoodIn wsX12_isSafeOnce wsX12_isInCheck := goodIn_r _ [10, 11, 12, 13, 5, 14, 1, 15, 16, 17, 18, 19, 20, 21, 22, 23, 24, 25, 26, 27, 28, 29, 30, 31, 32, 33, 34, 35, 36, 37, 38, 39, 40, 41, 42, 43, 44, 45, 46, 47, 48, 49, 50, 51, 52, 53, 54, 55, 56, 57, 58, 59, 60, 61, 62, 63, 64, 65, 66, 67, 68, 69] rfl (by decide +kernel)
set_option maxRecDepth 20000 in
theorem gX12_isSafeOnce_X12_isInCheck : GoodIn wsX12_isSafeOnce (wsV RX12 152 RX12 yX12_isInCheck wsX12_isInCheck) := goodIn_app (goodIn_of _ (by decide +kernel)) ggX12_isSafeOnce_X12_isInCheck
set_option maxRecDepth 20000 in
theorem ggX12_apartOf_X12_kind : GoodIn wsX12_apartOf wsX12_kind := goodIn_r _ [7] rfl (by decide +kernel)
set_option maxRecDepth 20000 in
theorem gX12_apartOf_X12_kind : GoodIn wsX12_apartOf (va_wsS RX12 136 yX12_kind wsX12_kind) := goodIn_app (goodIn_of _ (by decide +kernel)) ggX12_apartOf_X12_kind
set_option maxRecDepth 20000 in
theorem ggX12_apartOf_X12_isTaking : GoodIn wsX12_apartOf wsX12_isTaking := goodIn_r _ [11, 1, 4, 5, 6, 7, 12, 13, 14, 15, 16, 17, 18, 19, 20, 21, 22, 23, 24, 25, 26, 27, 28, 29, 30, 31, 32, 33, 34, 35, 36, 37, 38, 39, 40, 41, 42, 43, 44, 45, 46, 47, 48, 49, 50, 51] rfl (by decide +kernel)
set_option maxRecDepth 20000 in
theorem gX12_apartOf_X12_isTaking : GoodIn wsX12_apartOf (wsV RX12 139 RX12 yX12_isTaking wsX12_isTaking) := goodIn_app (goodIn_of _ (by decide +kernel)) ggX12_apartOf_X12_isTaking
set_option maxRecDepth 20000 in
theorem ggX12_spellWhole_X12_apartOf : GoodIn wsX12_spellWhole wsX12_apartOf := goodIn_r _ [5, 6, 7, 8, 9, 10, 4, 11, 12, 13, 14, 15, 110, 111, 112, 113, 114, 115, 116, 117, 118, 119, 120, 121, 122, 123, 124, 125, 126, 127, 128, 129, 130, 131, 132, 133, 134, 135, 136, 137, 138, 139, 140, 141, 142, 143, 144, 145, 146, 147, 148, 149] rfl (by decide +kernel)
set_option maxRecDepth 20000 in
theorem gX12_spellWhole_X12_apartOf : GoodIn wsX12_spellWhole (wsV RX12 211 RX12 yX12_apartOf wsX12_apartOf) := goodIn_app (goodIn_of _ (by decide +kernel)) ggX12_spellWhole_X12_apartOf
set_option maxRecDepth 20000 in
theorem ggX12_spellWhole_X12_isTaking : GoodIn wsX12_spellWhole wsX12_isTaking := goodIn_r _ [15, 6, 9, 10, 4, 11, 110, 111, 112, 113, 114, 115, 116, 117, 118, 119, 120, 121, 122, 123, 124, 125, 126, 127, 128, 129, 130, 131, 132, 133, 134, 135, 136, 137, 138, 139, 140, 141, 142, 143, 144, 145, 146, 147, 148, 149] rfl (by decide +kernel)
set_option maxRecDepth 20000 in
theorem gX12_spellWhole_X12_isTaking : GoodIn wsX12_spellWhole (wsV RX12 139 RX12 yX12_isTaking wsX12_isTaking) := goodIn_app (goodIn_of _ (by decide +kernel)) ggX12_spellWhole_X12_isTaking
set_option maxRecDepth 20000 in
theorem ggX12_spellWhole_X12_spellMove : GoodIn wsX12_spellWhole wsX12_spellMove := goodIn_r _ [19, 20, 6, 21, 22, 23, 4, 24, 9, 10, 11, 25, 26, 27, 28, 29, 30, 31, 32, 33, 34, 35, 36, 110, 111, 112, 113, 114, 115, 116, 117, 118, 119, 120, 121, 122, 123, 124, 125, 126, 127, 128, 129, 130, 131, 132, 133, 134, 135, 136, 137, 138, 139, 140, 141, 142, 143, 144, 145, 146, 147, 148, 149] rfl (by decide +kernel)
set_option maxRecDepth 20000 in
theorem gX12_spellWhole_X12_spellMove : GoodIn wsX12_spellWhole (wsV RX12 214 RX12 yX12_spellMove wsX12_spellMove) := goodIn_app (goodIn_of _ (by decide +kernel)) ggX12_spellWhole_X12_spellMove
set_option maxRecDepth 20000 in
theorem ggX12_spellWhole_X12_behind : GoodIn wsX12_spellWhole wsX12_behind := goodIn_r _ [40, 41, 42, 43, 44, 4, 45, 46, 6, 47, 48, 49, 50, 51, 52, 53, 54, 55, 9, 10, 11, 12, 13, 14, 15, 56, 57, 58, 59, 60, 61, 62, 63, 64, 65, 66, 67, 68, 69, 70, 71, 72, 73, 74, 75, 76, 77, 78, 79, 80, 81, 82, 83, 84, 85, 86, 87, 88, 89, 90, 91, 92, 93, 94, 95, 96, 97, 98, 99, 100, 101, 102, 103, 104, 105, 106, 107, 108, 109, 110, 111, 112, 113, 114, 115, 116, 117, 118, 119, 120, 121, 122, 123, 124, 125, 126, 127, 128, 129, 130, 131, 132, 133, 134, 135, 136, 137, 138, 139, 140, 141, 142, 143, 144, 145, 146, 147, 148, 149] rfl (by decide +kernel)
set_option maxRecDepth 20000 in
theorem gX12_spellWhole_X12_behind : GoodIn wsX12_spellWhole (wsV RX12 218 RX12 yX12_behind wsX12_behind) := goodIn_app (goodIn_of _ (by decide +kernel)) ggX12_spellWhole_X12_behind
