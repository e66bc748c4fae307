set_option maxRecDepth 20000 in
theorem ggX7_init_X0_init : GoodIn wsX7_init wsX0_init := goodIn_r _ [10, 11, 2, 3, 12, 13, 14, 15, 16, 17, 18, 19, 20, 21, 22, 23, 24, 25, 26] rfl (by decide +kernel)
set_option maxRecDepth 20000 in
theorem gX7_init_X0_init_n11 : GoodIn wsX7_init (wsX0_init) := ggX7_init_X0_init
set_option maxRecDepth 20000 in
theorem ggX7_isSafe_X0_castles : GoodIn wsX7_isSafe wsX0_castles := goodIn_r _ [7, 8, 55, 56, 57, 58, 59, 60, 61] rfl (by decide +kernel)
set_option maxRecDepth 20000 in
theorem gX7_isSafe_X0_castles : GoodIn wsX7_isSafe (wsV RX7 25 RX0 yX0_castles wsX0_castles) := goodIn_app (goodIn_of _ (by decide +kernel)) ggX7_isSafe_X0_castles
set_option maxRecDepth 20000 in
theorem ggX7_isSafe_X0_attacked : GoodIn wsX7_isSafe wsX0_attacked := goodIn_r _ [12, 8, 13, 14, 15, 6, 16, 55, 56, 57, 58, 59, 60, 61] rfl (by decide +kernel)
set_option maxRecDepth 20000 in
theorem gX7_isSafe_X0_attacked : GoodIn wsX7_isSafe (wsV RX7 29 RX0 yX0_attacked wsX0_attacked) := goodIn_app (goodIn_of _ (by decide +kernel)) ggX7_isSafe_X0_attacked
set_option maxRecDepth 20000 in
theorem ggX7_isSafe_X0_copyFrom : GoodIn wsX7_isSafe wsX0_copyFrom := goodIn_r _ [20, 8, 21, 22, 23, 24, 25, 26, 27, 28, 29, 30, 55, 56, 57, 58, 59, 60, 61] rfl (by decide +kernel)
set_option maxRecDepth 20000 in
theorem gX7_isSafe_X0_copyFrom : GoodIn wsX7_isSafe (wsV RX7 32 RX0 yX0_copyFrom wsX0_copyFrom) := goodIn_app (goodIn_of _ (by decide +kernel)) ggX7_isSafe_X0_copyFrom
set_option maxRecDepth 20000 in
theorem ggX7_isSafe_X0_play : GoodIn wsX7_isSafe wsX0_play := goodIn_r _ [34, 29, 8, 27, 28, 30, 35, 36, 37, 6, 38, 39, 4, 5, 7, 40, 41, 42, 43, 25, 26, 44, 45, 46, 47, 48, 49, 50, 55, 56, 57, 58, 59, 60, 61] rfl (by decide +kernel)
set_option maxRecDepth 20000 in
theorem gX7_isSafe_X0_play : GoodIn wsX7_isSafe (wsV RX7 36 RX0 yX0_play wsX0_play) := goodIn_app (goodIn_of _ (by decide +kernel)) ggX7_isSafe_X0_play
set_option maxRecDepth 20000 in
theorem ggX7_isSafe_X0_kingOf : GoodIn wsX7_isSafe wsX0_kingOf := goodIn_r _ [54, 25, 26, 55, 56, 57, 58, 59, 60, 61] rfl (by decide +kernel)
set_option maxRecDepth 20000 in
theorem gX7_isSafe_X0_kingOf : GoodIn wsX7_isSafe (wsV RX7 40 RX0 yX0_kingOf wsX0_kingOf) := goodIn_app (goodIn_of _ (by decide +kernel)) ggX7_isSafe_X0_kingOf
set_option maxRecDepth 20000 in
theorem ggX7_isLegal_X0_reaches : GoodIn wsX7_isLegal wsX0_reaches := goodIn_r _ [5, 6, 7, 8, 9, 10, 4, 11, 12, 13, 14, 15, 16, 17, 18, 19, 20, 21, 22, 23, 24, 25, 26, 27, 28, 29, 76, 77, 78, 79, 80, 81, 82] rfl (by decide +kernel)
set_option maxRecDepth 20000 in
theorem gX7_isLegal_X0_reaches : GoodIn wsX7_isLegal (wsV RX7 44 RX0 yX0_reaches wsX0_reaches) := goodIn_app (goodIn_of _ (by decide +kernel)) ggX7_isLegal_X0_reaches
set_option maxRecDepth 20000 in
theorem ggX7_isLegal_X0_becomesAnother : GoodIn wsX7_isLegal wsX0_becomesAnother := goodIn_r _ [33, 8, 9, 10, 4, 11, 6, 76, 77, 78, 79, 80, 81, 82] rfl (by decide +kernel)
set_option maxRecDepth 20000 in
theorem gX7_isLegal_X0_becomesAnother : GoodIn wsX7_isLegal (wsV RX7 47 RX0 yX0_becomesAnother wsX0_becomesAnother) := goodIn_app (goodIn_of _ (by decide +kernel)) ggX7_isLegal_X0_becomesAnother
set_option maxRecDepth 20000 in
theorem ggX7_isLegal_X7_isSafe : GoodIn wsX7_isLegal wsX7_isSafe := goodIn_r _ [38, 39, 40, 41, 22, 23, 4, 24, 6, 42, 43, 44, 45, 17, 18, 19, 20, 46, 47, 48, 49, 50, 51, 52, 53, 54, 55, 7, 29, 16, 56, 57, 58, 59, 60, 8, 9, 10, 11, 21, 61, 62, 63, 64, 65, 66, 67, 68, 69, 70, 71, 72, 73, 74, 75, 76, 77, 78, 79, 80, 81, 82, 83, 84] rfl (by decide +kernel)
set_option maxRecDepth 20000 in
theorem gX7_isLegal_X7_isSafe : GoodIn wsX7_isLegal (wsV RX7 50 RX7 yX7_isSafe wsX7_isSafe) := goodIn_app (goodIn_of _ (by decide +kernel)) ggX7_isLegal_X7_isSafe
set_option maxRecDepth 20000 in
theorem ggX7_legalMove_X0_reaches : GoodIn wsX7_legalMove wsX0_reaches := goodIn_r _ [5, 6, 7, 8, 9, 10, 4, 11, 12, 13, 14, 15, 16, 17, 18, 19, 20, 21, 22, 23, 24, 25, 26, 27, 28, 29, 76, 77, 78, 79, 80, 81, 82] rfl (by decide +kernel)
set_option maxRecDepth 20000 in
theorem gX7_legalMove_X0_reaches : GoodIn wsX7_legalMove (wsV RX7 44 RX0 yX0_reaches wsX0_reaches) := goodIn_app (goodIn_of _ (by decide +kernel)) ggX7_legalMove_X0_reaches
set_option maxRecDepth 20000 in
theorem ggX7_legalMove_X7_isSafe : GoodIn wsX7_legalMove wsX7_isSafe := goodIn_r _ [34, 35, 36, 37, 22, 23, 4, 24, 6, 38, 39, 40, 41, 17, 18, 19, 20, 42, 43, 44, 45, 46, 47, 48, 49, 50, 51, 7, 29, 16, 52, 53, 54, 55, 56, 8, 9, 10, 11, 21, 57, 58, 59, 60, 61, 62, 63, 64, 65, 66, 67, 68, 69, 70, 71, 76, 77, 78, 79, 80, 81, 82, 83, 84] rfl (by decide +kernel)
set_option maxRecDepth 20000 in
theorem gX7_legalMove_X7_isSafe : GoodIn wsX7_legalMove (wsV RX7 50 RX7 yX7_isSafe wsX7_isSafe) := goodIn_app (goodIn_of _ (by decide +kernel)) ggX7_legalMove_X7_isSafe
set_option maxRecDepth 20000 in
theorem ggX7_legalMove_X0_becomesAnother : GoodIn wsX7_legalMove wsX0_becomesAnother := goodIn_r _ [75, 8, 9, 10, 4, 11, 6, 76, 77, 78, 79, 80, 81, 82] rfl (by decide +kernel)
set_option maxRecDepth 20000 in
theorem gX7_legalMove_X0_becomesAnother : GoodIn wsX7_legalMove (wsV RX7 47 RX0 yX0_becomesAnother wsX0_becomesAnother) := goodIn_app (goodIn_of _ (by decide +kernel)) ggX7_legalMove_X0_becomesAnother
set_option maxRecDepth 20000 in
theorem ggX7_checkSign_X0_copyFrom : GoodIn wsX7_checkSign wsX0_copyFrom := goodIn_r _ [7, 8, 9, 10, 11, 12, 13, 14, 15, 16, 17, 18, 75, 76, 77, 78, 79, 80, 81] rfl (by decide +kernel)
set_option maxRecDepth 20000 in
theorem gX7_checkSign_X0_copyFrom : GoodIn wsX7_checkSign (wsV RX7 32 RX0 yX0_copyFrom wsX0_copyFrom) := goodIn_app (goodIn_of _ (by decide +kernel)) ggX7_checkSign_X0_copyFrom
set_option maxRecDepth 20000 in
theorem ggX7_checkSign_X0_play : GoodIn wsX7_checkSign wsX0_play := goodIn_r _ [22, 17, 8, 15, 16, 18, 23, 24, 25, 6, 26, 27, 28, 29, 30, 31, 32, 33, 34, 13, 14, 35, 36, 37, 38, 39, 40, 41, 75, 76, 77, 78, 79, 80, 81] rfl (by decide +kernel)
set_option maxRecDepth 20000 in
theorem gX7_checkSign_X0_play : GoodIn wsX7_checkSign (wsV RX7 36 RX0 yX0_play wsX0_play) := goodIn_app (goodIn_of _ (by decide +kernel)) ggX7_checkSign_X0_play
set_option maxRecDepth 20000 in
theorem ggX7_checkSign_X0_kingOf : GoodIn wsX7_checkSign wsX0_kingOf := goodIn_r _ [45, 13, 14, 75, 76, 77, 78, 79, 80, 81] rfl (by decide +kernel)
set_option maxRecDepth 20000 in
theorem gX7_checkSign_X0_kingOf : GoodIn wsX7_checkSign (wsV RX7 40 RX0 yX0_kingOf wsX0_kingOf) := goodIn_app (goodIn_of _ (by decide +kernel)) ggX7_checkSign_X0_kingOf
set_option maxRecDepth 20000 in
theorem ggX7_checkSign_X0_attacked : GoodIn wsX7_checkSign wsX0_attacked := goodIn_r _ [49, 8, 50, 51, 52, 6, 53, 75, 76, 77, 78, 79, 80, 81] rfl (by decide +kernel)
set_option maxRecDepth 20000 in
theorem gX7_checkSign_X0_attacked : GoodIn wsX7_checkSign (wsV RX7 29 RX0 yX0_attacked wsX0_attacked) := goodIn_app (goodIn_of _ (by decide +kernel)) ggX7_checkSign_X0_attacked
set_option maxRecDepth 20000 in
theorem ggX7_checkSign_X0_reaches : GoodIn wsX7_checkSign wsX0_reaches := goodIn_r _ [57, 8, 15, 23, 24, 25, 6, 26, 58, 59, 60, 61, 17, 50, 51, 52, 53, 27, 28, 29, 30, 62, 63, 64, 65, 16, 75, 76, 77, 78, 79, 80, 81] rfl (by decide +kernel)
set_option maxRecDepth 20000 in
theorem gX7_checkSign_X0_reaches : GoodIn wsX7_checkSign (wsV RX7 44 RX0 yX0_reaches wsX0_reaches) := goodIn_app (goodIn_of _ (by decide +kernel)) ggX7_checkSign_X0_reaches
set_option maxRecDepth 20000 in
theorem ggX7_checkSign_X7_isSafe : GoodIn wsX7_checkSign wsX7_isSafe := goodIn_r _ [70, 2, 71, 72, 28, 29, 6, 30, 8, 46, 47, 48, 49, 50, 51, 52, 53, 3, 4, 5, 7, 9, 10, 11, 12, 13, 14, 15, 16, 17, 18, 19, 20, 21, 22, 23, 24, 25, 26, 27, 31, 32, 33, 34, 35, 36, 37, 38, 39, 40, 41, 42, 43, 44, 45, 75, 76, 77, 78, 79, 80, 81, 73, 74] rfl (by decide +kernel)
set_option maxRecDepth 20000 in
theorem gX7_checkSign_X7_isSafe : GoodIn wsX7_checkSign (wsV RX7 50 RX7 yX7_isSafe wsX7_isSafe) := goodIn_app (goodIn_of _ (by decide +kernel)) ggX7_checkSign_X7_isSafe
