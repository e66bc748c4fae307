set_option maxRecDepth 20000 in
theorem ggX7_init_X0_init : GoodIn wsX7_init wsX0_init := goodIn_r _ [10, 11, 2, 3, 12, 13, 14, 15, 16, 17, 18, 19, 20, 21, 22, 23, 24, 25, 26] rfl (by decide +kernel)
set_option maxRecDepth 20000 in
theorem gX7_init_X0_init_n11 : GoodIn wsX7_init (wsX0_init) := ggX7_init_X0_init
set_option maxRecDepth 20000 in
theorem ggX7_isSafe_X0_castles : GoodIn wsX7_isSafe wsX0_castles := goodIn_r2 cbX7_isSafe_f _ [(1, 6), (1, 7), (4, 0), (4, 1), (4, 2), (4, 3), (4, 4), (4, 5), (4, 6)] rfl (by decide +kernel)
set_option maxRecDepth 20000 in
theorem gX7_isSafe_X0_castles : GoodIn wsX7_isSafe (wsV RX7 25 RX0 yX0_castles wsX0_castles) := goodIn_app (goodIn_of _ (by decide +kernel)) ggX7_isSafe_X0_castles
set_option maxRecDepth 20000 in
theorem ggX7_isSafe_X0_attacked : GoodIn wsX7_isSafe wsX0_attacked := goodIn_r2 cbX7_isSafe_f _ [(1, 11), (1, 7), (1, 12), (1, 13), (1, 14), (1, 5), (1, 15), (4, 0), (4, 1), (4, 2), (4, 3), (4, 4), (4, 5), (4, 6)] rfl (by decide +kernel)
set_option maxRecDepth 20000 in
theorem gX7_isSafe_X0_attacked : GoodIn wsX7_isSafe (wsV RX7 29 RX0 yX0_attacked wsX0_attacked) := goodIn_app (goodIn_of _ (by decide +kernel)) ggX7_isSafe_X0_attacked
set_option maxRecDepth 20000 in
theorem ggX7_isSafe_X0_copyFrom : GoodIn wsX7_isSafe wsX0_copyFrom := goodIn_r2 cbX7_isSafe_f _ [(1, 19), (1, 7), (1, 20), (1, 21), (1, 22), (1, 23), (2, 0), (2, 1), (2, 2), (2, 3), (2, 4), (2, 5), (4, 0), (4, 1), (4, 2), (4, 3), (4, 4), (4, 5), (4, 6)] rfl (by decide +kernel)
set_option maxRecDepth 20000 in
theorem gX7_isSafe_X0_copyFrom : GoodIn wsX7_isSafe (wsV RX7 32 RX0 yX0_copyFrom wsX0_copyFrom) := goodIn_app (goodIn_of _ (by decide +kernel)) ggX7_isSafe_X0_copyFrom
set_option maxRecDepth 20000 in
theorem ggX7_isSafe_X0_play : GoodIn wsX7_isSafe wsX0_play := goodIn_r2 cbX7_isSafe_f _ [(2, 9), (2, 4), (1, 7), (2, 2), (2, 3), (2, 5), (2, 10), (2, 11), (2, 12), (1, 5), (2, 13), (2, 14), (1, 3), (1, 4), (1, 6), (2, 15), (2, 16), (2, 17), (2, 18), (2, 0), (2, 1), (2, 19), (2, 20), (2, 21), (2, 22), (2, 23), (3, 0), (3, 1), (4, 0), (4, 1), (4, 2), (4, 3), (4, 4), (4, 5), (4, 6)] rfl (by decide +kernel)
set_option maxRecDepth 20000 in
theorem gX7_isSafe_X0_play : GoodIn wsX7_isSafe (wsV RX7 36 RX0 yX0_play wsX0_play) := goodIn_app (goodIn_of _ (by decide +kernel)) ggX7_isSafe_X0_play
set_option maxRecDepth 20000 in
theorem ggX7_isSafe_X0_kingOf : GoodIn wsX7_isSafe wsX0_kingOf := goodIn_r2 cbX7_isSafe_f _ [(3, 5), (2, 0), (2, 1), (4, 0), (4, 1), (4, 2), (4, 3), (4, 4), (4, 5), (4, 6)] rfl (by decide +kernel)
set_option maxRecDepth 20000 in
theorem gX7_isSafe_X0_kingOf : GoodIn wsX7_isSafe (wsV RX7 40 RX0 yX0_kingOf wsX0_kingOf) := goodIn_app (goodIn_of _ (by decide +kernel)) ggX7_isSafe_X0_kingOf
set_option maxRecDepth 20000 in
theorem ggX7_isLegal_X0_reaches : GoodIn wsX7_isLegal wsX0_reaches := goodIn_r2 cbX7_isLegal_f _ [(1, 4), (1, 5), (1, 6), (1, 7), (1, 8), (1, 9), (1, 3), (1, 10), (1, 11), (1, 12), (1, 13), (1, 14), (1, 15), (1, 16), (1, 17), (1, 18), (1, 19), (1, 20), (1, 21), (1, 22), (1, 23), (2, 0), (2, 1), (2, 2), (2, 3), (2, 4), (5, 0), (5, 1), (5, 2), (5, 3), (5, 4), (5, 5), (5, 6)] rfl (by decide +kernel)
set_option maxRecDepth 20000 in
theorem gX7_isLegal_X0_reaches : GoodIn wsX7_isLegal (wsV RX7 44 RX0 yX0_reaches wsX0_reaches) := goodIn_app (goodIn_of _ (by decide +kernel)) ggX7_isLegal_X0_reaches
set_option maxRecDepth 20000 in
theorem ggX7_isLegal_X0_becomesAnother : GoodIn wsX7_isLegal wsX0_becomesAnother := goodIn_r2 cbX7_isLegal_f _ [(2, 8), (1, 7), (1, 8), (1, 9), (1, 3), (1, 10), (1, 5), (5, 0), (5, 1), (5, 2), (5, 3), (5, 4), (5, 5), (5, 6)] rfl (by decide +kernel)
set_option maxRecDepth 20000 in
theorem gX7_isLegal_X0_becomesAnother : GoodIn wsX7_isLegal (wsV RX7 47 RX0 yX0_becomesAnother wsX0_becomesAnother) := goodIn_app (goodIn_of _ (by decide +kernel)) ggX7_isLegal_X0_becomesAnother
set_option maxRecDepth 20000 in
theorem ggX7_isLegal_X7_isSafe : GoodIn wsX7_isLegal wsX7_isSafe := goodIn_r2 cbX7_isLegal_f _ [(2, 13), (2, 14), (2, 15), (2, 16), (1, 21), (1, 22), (1, 3), (1, 23), (1, 5), (2, 17), (2, 18), (2, 19), (2, 20), (1, 16), (1, 17), (1, 18), (1, 19), (2, 21), (2, 22), (2, 23), (3, 0), (3, 1), (3, 2), (3, 3), (3, 4), (3, 5), (3, 6), (1, 6), (2, 4), (1, 15), (3, 7), (3, 8), (3, 9), (3, 10), (3, 11), (1, 7), (1, 8), (1, 9), (1, 10), (1, 20), (3, 12), (3, 13), (3, 14), (3, 15), (3, 16), (3, 17), (3, 18), (3, 19), (3, 20), (3, 21), (3, 22), (3, 23), (4, 0), (4, 1), (4, 2), (5, 0), (5, 1), (5, 2), (5, 3), (5, 4), (5, 5), (5, 6), (6, 0), (6, 1)] rfl (by decide +kernel)
set_option maxRecDepth 20000 in
theorem gX7_isLegal_X7_isSafe : GoodIn wsX7_isLegal (wsV RX7 50 RX7 yX7_isSafe wsX7_isSafe) := goodIn_app (goodIn_of _ (by decide +kernel)) ggX7_isLegal_X7_isSafe
set_option maxRecDepth 20000 in
theorem ggX7_legalMove_X0_reaches : GoodIn wsX7_legalMove wsX0_reaches := goodIn_r2 cbX7_legalMove_f _ [(1, 4), (1, 5), (1, 6), (1, 7), (1, 8), (1, 9), (1, 3), (1, 10), (1, 11), (1, 12), (1, 13), (1, 14), (1, 15), (1, 16), (1, 17), (1, 18), (1, 19), (1, 20), (1, 21), (1, 22), (1, 23), (2, 0), (2, 1), (2, 2), (2, 3), (2, 4), (5, 0), (5, 1), (5, 2), (5, 3), (5, 4), (5, 5), (5, 6)] rfl (by decide +kernel)
set_option maxRecDepth 20000 in
theorem gX7_legalMove_X0_reaches : GoodIn wsX7_legalMove (wsV RX7 44 RX0 yX0_reaches wsX0_reaches) := goodIn_app (goodIn_of _ (by decide +kernel)) ggX7_legalMove_X0_reaches
set_option maxRecDepth 20000 in
theorem ggX7_legalMove_X7_isSafe : GoodIn wsX7_legalMove wsX7_isSafe := goodIn_r2 cbX7_legalMove_f _ [(2, 9), (2, 10), (2, 11), (2, 12), (1, 21), (1, 22), (1, 3), (1, 23), (1, 5), (2, 13), (2, 14), (2, 15), (2, 16), (1, 16), (1, 17), (1, 18), (1, 19), (2, 17), (2, 18), (2, 19), (2, 20), (2, 21), (2, 22), (2, 23), (3, 0), (3, 1), (3, 2), (1, 6), (2, 4), (1, 15), (3, 3), (3, 4), (3, 5), (3, 6), (3, 7), (1, 7), (1, 8), (1, 9), (1, 10), (1, 20), (3, 8), (3, 9), (3, 10), (3, 11), (3, 12), (3, 13), (3, 14), (3, 15), (3, 16), (3, 17), (3, 18), (3, 19), (3, 20), (3, 21), (3, 22), (5, 0), (5, 1), (5, 2), (5, 3), (5, 4), (5, 5), (5, 6), (6, 0), (6, 1)] rfl (by decide +kernel)
set_option maxRecDepth 20000 in
theorem gX7_legalMove_X7_isSafe : GoodIn wsX7_legalMove (wsV RX7 50 RX7 yX7_isSafe wsX7_isSafe) := goodIn_app (goodIn_of _ (by decide +kernel)) ggX7_legalMove_X7_isSafe
set_option maxRecDepth 20000 in
theorem ggX7_legalMove_X0_becomesAnother : GoodIn wsX7_legalMove wsX0_becomesAnother := goodIn_r2 cbX7_legalMove_f _ [(4, 2), (1, 7), (1, 8), (1, 9), (1, 3), (1, 10), (1, 5), (5, 0), (5, 1), (5, 2), (5, 3), (5, 4), (5, 5), (5, 6)] rfl (by decide +kernel)
set_option maxRecDepth 20000 in
theorem gX7_legalMove_X0_becomesAnother : GoodIn wsX7_legalMove (wsV RX7 47 RX0 yX0_becomesAnother wsX0_becomesAnother) := goodIn_app (goodIn_of _ (by decide +kernel)) ggX7_legalMove_X0_becomesAnother
set_option maxRecDepth 20000 in
theorem ggX7_checkSign_X0_copyFrom : GoodIn wsX7_checkSign wsX0_copyFrom := goodIn_r2 cbX7_checkSign_f _ [(1, 6), (1, 7), (1, 8), (1, 9), (1, 10), (1, 11), (1, 12), (1, 13), (1, 14), (1, 15), (1, 16), (1, 17), (5, 0), (5, 1), (5, 2), (5, 3), (5, 4), (5, 5), (5, 6)] rfl (by decide +kernel)
set_option maxRecDepth 20000 in
theorem gX7_checkSign_X0_copyFrom : GoodIn wsX7_checkSign (wsV RX7 32 RX0 yX0_copyFrom wsX0_copyFrom) := goodIn_app (goodIn_of _ (by decide +kernel)) ggX7_checkSign_X0_copyFrom
set_option maxRecDepth 20000 in
theorem ggX7_checkSign_X0_play : GoodIn wsX7_checkSign wsX0_play := goodIn_r2 cbX7_checkSign_f _ [(1, 21), (1, 16), (1, 7), (1, 14), (1, 15), (1, 17), (1, 22), (1, 23), (2, 0), (1, 5), (2, 1), (2, 2), (2, 3), (2, 4), (2, 5), (2, 6), (2, 7), (2, 8), (2, 9), (1, 12), (1, 13), (2, 10), (2, 11), (2, 12), (2, 13), (2, 14), (2, 15), (2, 16), (5, 0), (5, 1), (5, 2), (5, 3), (5, 4), (5, 5), (5, 6)] rfl (by decide +kernel)
set_option maxRecDepth 20000 in
theorem gX7_checkSign_X0_play : GoodIn wsX7_checkSign (wsV RX7 36 RX0 yX0_play wsX0_play) := goodIn_app (goodIn_of _ (by decide +kernel)) ggX7_checkSign_X0_play
set_option maxRecDepth 20000 in
theorem ggX7_checkSign_X0_kingOf : GoodIn wsX7_checkSign wsX0_kingOf := goodIn_r2 cbX7_checkSign_f _ [(2, 20), (1, 12), (1, 13), (5, 0), (5, 1), (5, 2), (5, 3), (5, 4), (5, 5), (5, 6)] rfl (by decide +kernel)
set_option maxRecDepth 20000 in
theorem gX7_checkSign_X0_kingOf : GoodIn wsX7_checkSign (wsV RX7 40 RX0 yX0_kingOf wsX0_kingOf) := goodIn_app (goodIn_of _ (by decide +kernel)) ggX7_checkSign_X0_kingOf
set_option maxRecDepth 20000 in
theorem ggX7_checkSign_X0_attacked : GoodIn wsX7_checkSign wsX0_attacked := goodIn_r2 cbX7_checkSign_f _ [(3, 0), (1, 7), (3, 1), (3, 2), (3, 3), (1, 5), (3, 4), (5, 0), (5, 1), (5, 2), (5, 3), (5, 4), (5, 5), (5, 6)] rfl (by decide +kernel)
set_option maxRecDepth 20000 in
theorem gX7_checkSign_X0_attacked : GoodIn wsX7_checkSign (wsV RX7 29 RX0 yX0_attacked wsX0_attacked) := goodIn_app (goodIn_of _ (by decide +kernel)) ggX7_checkSign_X0_attacked
set_option maxRecDepth 20000 in
theorem ggX7_checkSign_X0_reaches : GoodIn wsX7_checkSign wsX0_reaches := goodIn_r2 cbX7_checkSign_f _ [(3, 8), (1, 7), (1, 14), (1, 22), (1, 23), (2, 0), (1, 5), (2, 1), (3, 9), (3, 10), (3, 11), (3, 12), (1, 16), (3, 1), (3, 2), (3, 3), (3, 4), (2, 2), (2, 3), (2, 4), (2, 5), (3, 13), (3, 14), (3, 15), (3, 16), (1, 15), (5, 0), (5, 1), (5, 2), (5, 3), (5, 4), (5, 5), (5, 6)] rfl (by decide +kernel)
set_option maxRecDepth 20000 in
theorem gX7_checkSign_X0_reaches : GoodIn wsX7_checkSign (wsV RX7 44 RX0 yX0_reaches wsX0_reaches) := goodIn_app (goodIn_of _ (by decide +kernel)) ggX7_checkSign_X0_reaches
set_option maxRecDepth 20000 in
theorem ggX7_checkSign_X7_isSafe : GoodIn wsX7_checkSign wsX7_isSafe := goodIn_r2 cbX7_checkSign_f _ [(3, 21), (1, 1), (3, 22), (3, 23), (2, 3), (2, 4), (1, 5), (2, 5), (1, 7), (2, 21), (2, 22), (2, 23), (3, 0), (3, 1), (3, 2), (3, 3), (3, 4), (1, 2), (1, 3), (1, 4), (1, 6), (1, 8), (1, 9), (1, 10), (1, 11), (1, 12), (1, 13), (1, 14), (1, 15), (1, 16), (1, 17), (1, 18), (1, 19), (1, 20), (1, 21), (1, 22), (1, 23), (2, 0), (2, 1), (2, 2), (2, 6), (2, 7), (2, 8), (2, 9), (2, 10), (2, 11), (2, 12), (2, 13), (2, 14), (2, 15), (2, 16), (2, 17), (2, 18), (2, 19), (2, 20), (5, 0), (5, 1), (5, 2), (5, 3), (5, 4), (5, 5), (5, 6), (4, 0), (4, 1)] rfl (by decide +kernel)
set_option maxRecDepth 20000 in
theorem gX7_checkSign_X7_isSafe : GoodIn wsX7_checkSign (wsV RX7 50 RX7 yX7_isSafe wsX7_isSafe) := goodIn_app (goodIn_of _ (by decide +kernel)) ggX7_checkSign_X7_isSafe
