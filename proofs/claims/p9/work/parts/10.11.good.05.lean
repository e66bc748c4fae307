set_option maxRecDepth 20000 in
theorem ggX5_init_X6_init : GoodIn wsX5_init wsX6_init := goodIn_r _ [10, 11, 2, 3, 12, 13, 14, 15, 16] rfl (by decide +kernel)
set_option maxRecDepth 20000 in
theorem gX5_init_X6_init_n11 : GoodIn wsX5_init (wsX6_init) := ggX5_init_X6_init
set_option maxRecDepth 20000 in
theorem ggX5_readInto_X0_wipe : GoodIn wsX5_readInto wsX0_wipe := goodIn_r2 cbX5_readInto_f _ [(1, 6), (1, 7), (1, 8), (1, 9), (1, 10), (1, 11), (12, 0), (12, 1), (12, 2), (12, 3), (12, 4), (12, 5), (12, 6)] rfl (by decide +kernel)
set_option maxRecDepth 20000 in
theorem gX5_readInto_X0_wipe : GoodIn wsX5_readInto (wsV RX5 22 RX0 yX0_wipe wsX0_wipe) := goodIn_app (goodIn_of _ (by decide +kernel)) ggX5_readInto_X0_wipe
set_option maxRecDepth 20000 in
theorem ggX5_readInto_X5_readMen : GoodIn wsX5_readInto wsX5_readMen := goodIn_r2 cbX5_readInto_f _ [(1, 16), (1, 17), (1, 18), (1, 19), (1, 15), (1, 20), (1, 0), (1, 1), (1, 21), (1, 22), (1, 23), (2, 0), (2, 1), (2, 2), (2, 3), (2, 4), (2, 5), (2, 6), (2, 7), (2, 8), (2, 9), (2, 10), (2, 11), (2, 12), (2, 13), (2, 14), (2, 15), (2, 16), (2, 17), (2, 18), (2, 19), (2, 20), (2, 21), (2, 22), (2, 23), (3, 0), (3, 1), (3, 2), (3, 3), (3, 4), (3, 5), (3, 6), (3, 7), (3, 8), (3, 9), (3, 10), (3, 11), (3, 12), (3, 13), (3, 14), (3, 15), (3, 16), (3, 17), (3, 18), (3, 19), (3, 20), (3, 21), (3, 22), (3, 23), (4, 0), (4, 1), (4, 2), (4, 3), (4, 4), (4, 5), (4, 6), (4, 7), (4, 8), (4, 9), (4, 10), (4, 11), (4, 12), (4, 13), (4, 14), (4, 15), (4, 16), (4, 17), (4, 18), (4, 19), (4, 20), (4, 21), (4, 22), (4, 23), (5, 0), (5, 1), (5, 2), (5, 3), (5, 4), (5, 5), (5, 6), (5, 7), (5, 8), (5, 9), (5, 10), (5, 11), (5, 12), (5, 13), (5, 14), (5, 15), (5, 16), (5, 17), (5, 18), (5, 19), (5, 20), (5, 21), (5, 22), (5, 23), (6, 0), (6, 1), (6, 2), (6, 3), (6, 4), (6, 5), (6, 6), (6, 7), (6, 8), (1, 5), (6, 9), (1, 7), (6, 10), (6, 11), (11, 0), (11, 1), (13, 0), (13, 1), (12, 0), (12, 1), (12, 2), (12, 3), (12, 4), (12, 5), (12, 6)] rfl (by decide +kernel)
set_option maxRecDepth 20000 in
theorem gX5_readInto_X5_readMen : GoodIn wsX5_readInto (wsV RX5 27 RX5 yX5_readMen wsX5_readMen) := goodIn_app (goodIn_of _ (by decide +kernel)) ggX5_readInto_X5_readMen
set_option maxRecDepth 20000 in
theorem ggX5_readInto_X5_skip : GoodIn wsX5_readInto wsX5_skip := goodIn_r2 cbX5_readInto_f _ [(1, 20), (1, 0), (1, 1), (1, 21), (1, 22), (1, 23), (2, 0), (2, 1), (2, 2), (2, 3), (11, 0), (11, 1), (13, 0), (13, 1)] rfl (by decide +kernel)
set_option maxRecDepth 20000 in
theorem gX5_readInto_X5_skip : GoodIn wsX5_readInto (wsV RX5 31 RX5 yX5_skip wsX5_skip) := goodIn_app (goodIn_of _ (by decide +kernel)) ggX5_readInto_X5_skip
set_option maxRecDepth 20000 in
theorem ggX5_readInto_X5_readSide : GoodIn wsX5_readInto wsX5_readSide := goodIn_r2 cbX5_readInto_f _ [(6, 15), (1, 0), (1, 1), (6, 16), (1, 21), (1, 22), (1, 23), (2, 0), (2, 1), (2, 2), (2, 3), (1, 17), (1, 18), (1, 19), (1, 15), (1, 20), (11, 0), (11, 1), (12, 0), (12, 1), (12, 2), (12, 3), (12, 4), (12, 5), (12, 6), (13, 0), (13, 1)] rfl (by decide +kernel)
set_option maxRecDepth 20000 in
theorem gX5_readInto_X5_readSide : GoodIn wsX5_readInto (wsV RX5 35 RX5 yX5_readSide wsX5_readSide) := goodIn_app (goodIn_of _ (by decide +kernel)) ggX5_readInto_X5_readSide
set_option maxRecDepth 20000 in
theorem ggX5_readInto_X5_readRights : GoodIn wsX5_readInto wsX5_readRights := goodIn_r2 cbX5_readInto_f _ [(6, 20), (6, 21), (1, 17), (1, 18), (1, 19), (1, 15), (1, 20), (1, 0), (1, 1), (1, 21), (1, 22), (1, 23), (2, 0), (2, 1), (2, 2), (2, 3), (6, 22), (3, 6), (3, 7), (2, 16), (3, 8), (2, 22), (3, 9), (3, 10), (3, 11), (3, 12), (3, 3), (3, 4), (6, 23), (7, 0), (7, 1), (7, 2), (2, 23), (3, 0), (3, 1), (3, 2), (7, 3), (7, 4), (3, 15), (7, 5), (7, 6), (7, 7), (7, 8), (5, 1), (7, 9), (7, 10), (5, 4), (7, 11), (7, 12), (7, 13), (4, 8), (7, 14), (7, 15), (7, 16), (7, 17), (4, 19), (4, 20), (4, 21), (7, 18), (5, 9), (5, 10), (5, 11), (5, 12), (5, 13), (5, 14), (12, 0), (12, 1), (12, 2), (12, 3), (12, 4), (12, 5), (12, 6), (11, 0), (11, 1), (13, 0), (13, 1)] rfl (by decide +kernel)
set_option maxRecDepth 20000 in
theorem gX5_readInto_X5_readRights : GoodIn wsX5_readInto (wsV RX5 38 RX5 yX5_readRights wsX5_readRights) := goodIn_app (goodIn_of _ (by decide +kernel)) ggX5_readInto_X5_readRights
set_option maxRecDepth 20000 in
theorem ggX5_readInto_X5_readPassed : GoodIn wsX5_readInto wsX5_readPassed := goodIn_r2 cbX5_readInto_f _ [(7, 22), (1, 0), (1, 1), (7, 23), (1, 17), (1, 18), (1, 19), (1, 15), (1, 20), (1, 21), (1, 22), (1, 23), (2, 0), (2, 1), (2, 2), (2, 3), (8, 0), (2, 9), (8, 1), (8, 2), (8, 3), (8, 4), (8, 5), (2, 8), (2, 10), (11, 0), (11, 1), (12, 0), (12, 1), (12, 2), (12, 3), (12, 4), (12, 5), (12, 6), (13, 0), (13, 1)] rfl (by decide +kernel)
set_option maxRecDepth 20000 in
theorem gX5_readInto_X5_readPassed : GoodIn wsX5_readInto (wsV RX5 41 RX5 yX5_readPassed wsX5_readPassed) := goodIn_app (goodIn_of _ (by decide +kernel)) ggX5_readInto_X5_readPassed
set_option maxRecDepth 20000 in
theorem ggX5_readInto_X5_readNumber : GoodIn wsX5_readInto wsX5_readNumber := goodIn_r2 cbX5_readInto_f _ [(8, 9), (1, 1), (1, 0), (1, 21), (1, 22), (1, 23), (2, 0), (2, 1), (2, 2), (2, 3), (8, 10), (2, 9), (8, 11), (11, 0), (11, 1), (13, 0), (13, 1)] rfl (by decide +kernel)
set_option maxRecDepth 20000 in
theorem gX5_readInto_X5_readNumber : GoodIn wsX5_readInto (wsV RX5 44 RX5 yX5_readNumber wsX5_readNumber) := goodIn_app (goodIn_of _ (by decide +kernel)) ggX5_readInto_X5_readNumber
set_option maxRecDepth 20000 in
theorem ggX5_readInto_X5_readMoveNumber : GoodIn wsX5_readInto wsX5_readMoveNumber := goodIn_r2 cbX5_readInto_f _ [(8, 15), (8, 16), (8, 6), (8, 7), (8, 8), (1, 15), (8, 9), (1, 1), (1, 0), (1, 21), (1, 22), (1, 23), (2, 0), (2, 1), (2, 2), (2, 3), (8, 10), (2, 9), (8, 11), (12, 0), (12, 1), (12, 2), (12, 3), (12, 4), (12, 5), (12, 6), (11, 0), (11, 1), (13, 0), (13, 1)] rfl (by decide +kernel)
set_option maxRecDepth 20000 in
theorem gX5_readInto_X5_readMoveNumber : GoodIn wsX5_readInto (wsV RX5 48 RX5 yX5_readMoveNumber wsX5_readMoveNumber) := goodIn_app (goodIn_of _ (by decide +kernel)) ggX5_readInto_X5_readMoveNumber
set_option maxRecDepth 20000 in
theorem ggX5_readInto_X6_size : GoodIn wsX5_readInto wsX6_size := goodIn_r2 cbX5_readInto_f _ [(8, 20), (2, 2), (13, 0), (13, 1)] rfl (by decide +kernel)
set_option maxRecDepth 20000 in
theorem gX5_readInto_X6_size : GoodIn wsX5_readInto (wsV RX5 51 RX6 yX6_size wsX6_size) := goodIn_app (goodIn_of _ (by decide +kernel)) ggX5_readInto_X6_size
set_option maxRecDepth 20000 in
theorem ggX5_readInto_X5_hasSoundMen : GoodIn wsX5_readInto wsX5_hasSoundMen := goodIn_r2 cbX5_readInto_f _ [(8, 23), (9, 0), (6, 16), (9, 1), (9, 2), (9, 3), (1, 5), (9, 4), (1, 7), (9, 5), (9, 6), (9, 7), (9, 8), (6, 10), (6, 11), (9, 9), (9, 10), (9, 11), (9, 12), (9, 13), (9, 14), (9, 15), (9, 16), (12, 0), (12, 1), (12, 2), (12, 3), (12, 4), (12, 5), (12, 6)] rfl (by decide +kernel)
set_option maxRecDepth 20000 in
theorem gX5_readInto_X5_hasSoundMen : GoodIn wsX5_readInto (va_wsS RX5 54 yX5_hasSoundMen wsX5_hasSoundMen) := goodIn_app (goodIn_of _ (by decide +kernel)) ggX5_readInto_X5_hasSoundMen
set_option maxRecDepth 20000 in
theorem ggX5_readInto_X5_hasSoundRights : GoodIn wsX5_readInto wsX5_hasSoundRights := goodIn_r2 cbX5_readInto_f _ [(9, 19), (6, 21), (9, 0), (6, 22), (3, 6), (3, 7), (2, 16), (3, 8), (2, 22), (3, 9), (3, 10), (3, 11), (3, 12), (3, 3), (3, 4), (12, 0), (12, 1), (12, 2), (12, 3), (12, 4), (12, 5), (12, 6)] rfl (by decide +kernel)
set_option maxRecDepth 20000 in
theorem gX5_readInto_X5_hasSoundRights : GoodIn wsX5_readInto (va_wsS RX5 57 yX5_hasSoundRights wsX5_hasSoundRights) := goodIn_app (goodIn_of _ (by decide +kernel)) ggX5_readInto_X5_hasSoundRights
set_option maxRecDepth 20000 in
theorem ggX5_readInto_X5_hasSoundPassed : GoodIn wsX5_readInto wsX5_hasSoundPassed := goodIn_r2 cbX5_readInto_f _ [(9, 22), (7, 23), (6, 16), (9, 0), (9, 23), (10, 0), (10, 1), (1, 5), (10, 2), (1, 7), (12, 0), (12, 1), (12, 2), (12, 3), (12, 4), (12, 5), (12, 6)] rfl (by decide +kernel)
set_option maxRecDepth 20000 in
theorem gX5_readInto_X5_hasSoundPassed : GoodIn wsX5_readInto (va_wsS RX5 60 yX5_hasSoundPassed wsX5_hasSoundPassed) := goodIn_app (goodIn_of _ (by decide +kernel)) ggX5_readInto_X5_hasSoundPassed
set_option maxRecDepth 20000 in
theorem ggX5_skip_X6_at : GoodIn wsX5_skip wsX6_at := goodIn_r _ [7, 8, 9, 12, 13] rfl (by decide +kernel)
set_option maxRecDepth 20000 in
theorem gX5_skip_X6_at : GoodIn wsX5_skip (wsV RX5 63 RX6 yX6_at wsX6_at) := goodIn_app (goodIn_of _ (by decide +kernel)) ggX5_skip_X6_at
set_option maxRecDepth 20000 in
theorem ggX5_readMen_X5_skip : GoodIn wsX5_readMen wsX5_skip := goodIn_r2 cbX5_readMen_f _ [(1, 4), (1, 5), (1, 6), (1, 7), (1, 8), (1, 9), (1, 10), (1, 11), (1, 12), (1, 13), (6, 0), (6, 1), (7, 0), (7, 1)] rfl (by decide +kernel)
set_option maxRecDepth 20000 in
theorem gX5_readMen_X5_skip : GoodIn wsX5_readMen (wsV RX5 31 RX5 yX5_skip wsX5_skip) := goodIn_app (goodIn_of _ (by decide +kernel)) ggX5_readMen_X5_skip
set_option maxRecDepth 20000 in
theorem ggX5_readMen_X5_readRank : GoodIn wsX5_readMen wsX5_readRank := goodIn_r2 cbX5_readMen_f _ [(1, 17), (1, 5), (1, 6), (1, 7), (1, 8), (1, 9), (1, 10), (1, 11), (1, 12), (1, 13), (1, 18), (1, 19), (1, 20), (1, 21), (1, 22), (1, 23), (2, 0), (2, 1), (2, 2), (2, 3), (2, 4), (2, 5), (2, 6), (2, 7), (2, 8), (2, 9), (2, 10), (2, 11), (2, 12), (2, 13), (2, 14), (2, 15), (2, 16), (2, 17), (2, 18), (2, 19), (2, 20), (2, 21), (2, 22), (2, 23), (3, 0), (3, 1), (3, 2), (3, 3), (3, 4), (3, 5), (3, 6), (3, 7), (3, 8), (3, 9), (3, 10), (3, 11), (3, 12), (3, 13), (3, 14), (3, 15), (3, 16), (3, 17), (3, 18), (3, 19), (3, 20), (3, 21), (3, 22), (3, 23), (4, 0), (4, 1), (4, 2), (4, 3), (4, 4), (4, 5), (4, 6), (4, 7), (4, 8), (4, 9), (4, 10), (4, 11), (4, 12), (4, 13), (4, 14), (4, 15), (4, 16), (4, 17), (4, 18), (4, 19), (4, 20), (4, 21), (4, 22), (4, 23), (5, 0), (5, 1), (5, 2), (5, 3), (5, 4), (5, 5), (5, 6), (5, 7), (5, 8), (5, 9), (5, 10), (5, 11), (5, 12), (5, 13), (5, 14), (5, 15), (5, 16), (5, 17), (5, 18), (5, 19), (5, 20), (5, 21), (5, 22), (5, 23), (6, 0), (6, 1), (7, 0), (7, 1), (8, 0), (8, 1), (8, 2), (8, 3), (8, 4), (8, 5), (8, 6)] rfl (by decide +kernel)
set_option maxRecDepth 20000 in
theorem gX5_readMen_X5_readRank : GoodIn wsX5_readMen (wsV RX5 66 RX5 yX5_readRank wsX5_readRank) := goodIn_app (goodIn_of _ (by decide +kernel)) ggX5_readMen_X5_readRank
set_option maxRecDepth 20000 in
theorem ggX5_readRank_X6_at : GoodIn wsX5_readRank wsX6_at := goodIn_r2 cbX5_readRank_f _ [(1, 6), (1, 7), (1, 8), (7, 0), (7, 1)] rfl (by decide +kernel)
set_option maxRecDepth 20000 in
theorem gX5_readRank_X6_at : GoodIn wsX5_readRank (wsV RX5 63 RX6 yX6_at wsX6_at) := goodIn_app (goodIn_of _ (by decide +kernel)) ggX5_readRank_X6_at
set_option maxRecDepth 20000 in
theorem ggX5_readRank_X11_isRank : GoodIn wsX5_readRank wsX11_isRank := goodIn_r _ [12] rfl (by decide +kernel)
set_option maxRecDepth 20000 in
theorem gX5_readRank_X11_isRank_n70 : GoodIn wsX5_readRank (wsX11_isRank) := ggX5_readRank_X11_isRank
set_option maxRecDepth 20000 in
theorem ggX5_readRank_X11_isLetter : GoodIn wsX5_readRank wsX11_isLetter := goodIn_r _ [14] rfl (by decide +kernel)
set_option maxRecDepth 20000 in
theorem gX5_readRank_X11_isLetter_n73 : GoodIn wsX5_readRank (wsX11_isLetter) := ggX5_readRank_X11_isLetter
set_option maxRecDepth 20000 in
theorem ggX5_readRank_J0_indexOf_0f7a4 : GoodIn wsX5_readRank wsJ0_indexOf_0f7a4 := goodIn_r2 cbX5_readRank_f _ [(1, 18), (1, 19), (1, 20), (1, 21), (1, 17), (1, 22), (1, 23), (2, 0), (2, 1), (2, 2), (2, 3), (2, 4), (2, 5), (2, 6), (2, 7), (2, 8), (2, 9), (2, 10), (2, 11), (2, 12), (2, 13), (2, 14), (2, 15), (2, 16), (2, 17), (2, 18), (2, 19), (2, 20), (2, 21), (2, 22), (2, 23), (3, 0), (3, 1), (3, 2), (3, 3), (3, 4), (3, 5), (3, 6), (3, 7), (3, 8), (3, 9), (3, 10), (3, 11), (3, 12), (3, 13), (3, 14), (3, 15), (3, 16), (3, 17), (3, 18), (3, 19), (3, 20), (3, 21), (3, 22), (3, 23), (4, 0), (4, 1), (4, 2), (4, 3), (4, 4), (4, 5), (4, 6), (4, 7), (4, 8), (4, 9), (4, 10), (4, 11), (4, 12), (4, 13), (4, 14), (4, 15), (4, 16), (4, 17), (4, 18), (4, 19), (4, 20), (4, 21), (4, 22), (4, 23), (5, 0), (5, 1), (5, 2), (5, 3), (5, 4), (5, 5), (5, 6)] rfl (by decide +kernel)
set_option maxRecDepth 20000 in
theorem gX5_readRank_J0_indexOf_0f7a4 : GoodIn wsX5_readRank (wsV RX5 78 RJ0 yJ0_indexOf_0f7a4 wsJ0_indexOf_0f7a4) := goodIn_app (goodIn_of _ (by decide +kernel)) ggX5_readRank_J0_indexOf_0f7a4
set_option maxRecDepth 20000 in
theorem ggX5_readRank_X0_put : GoodIn wsX5_readRank wsX0_put := goodIn_r2 cbX5_readRank_f _ [(5, 11), (5, 12), (5, 13), (5, 14), (8, 0), (8, 1), (8, 2), (8, 3), (8, 4), (8, 5), (8, 6)] rfl (by decide +kernel)
set_option maxRecDepth 20000 in
theorem gX5_readRank_X0_put : GoodIn wsX5_readRank (wsV RX5 84 RX0 yX0_put wsX0_put) := goodIn_app (goodIn_of _ (by decide +kernel)) ggX5_readRank_X0_put
set_option maxRecDepth 20000 in
theorem ggX5_readSide_X6_at : GoodIn wsX5_readSide wsX6_at := goodIn_r _ [8, 9, 10, 25, 26] rfl (by decide +kernel)
set_option maxRecDepth 20000 in
theorem gX5_readSide_X6_at : GoodIn wsX5_readSide (wsV RX5 63 RX6 yX6_at wsX6_at) := goodIn_app (goodIn_of _ (by decide +kernel)) ggX5_readSide_X6_at
set_option maxRecDepth 20000 in
theorem ggX5_readSide_X5_skip : GoodIn wsX5_readSide wsX5_skip := goodIn_r _ [15, 1, 2, 4, 5, 6, 7, 8, 9, 10, 16, 17, 25, 26] rfl (by decide +kernel)
set_option maxRecDepth 20000 in
theorem gX5_readSide_X5_skip : GoodIn wsX5_readSide (wsV RX5 31 RX5 yX5_skip wsX5_skip) := goodIn_app (goodIn_of _ (by decide +kernel)) ggX5_readSide_X5_skip
set_option maxRecDepth 20000 in
theorem ggX5_readRights_X5_skip : GoodIn wsX5_readRights wsX5_skip := goodIn_r2 cbX5_readRights_f _ [(1, 5), (1, 6), (1, 7), (1, 8), (1, 9), (1, 10), (1, 11), (1, 12), (1, 13), (1, 14), (5, 0), (5, 1), (6, 0), (6, 1)] rfl (by decide +kernel)
set_option maxRecDepth 20000 in
theorem gX5_readRights_X5_skip : GoodIn wsX5_readRights (wsV RX5 31 RX5 yX5_skip wsX5_skip) := goodIn_app (goodIn_of _ (by decide +kernel)) ggX5_readRights_X5_skip
set_option maxRecDepth 20000 in
theorem ggX5_readRights_J0_length_8abf5 : GoodIn wsX5_readRights wsJ0_length_8abf5 := goodIn_r _ [20, 21, 22, 23, 24, 19, 25, 26, 27] rfl (by decide +kernel)
set_option maxRecDepth 20000 in
theorem gX5_readRights_J0_length_8abf5 : GoodIn wsX5_readRights (wsV RX5 93 RJ0 yJ0_length_8abf5 wsJ0_length_8abf5) := goodIn_app (goodIn_of _ (by decide +kernel)) ggX5_readRights_J0_length_8abf5
set_option maxRecDepth 20000 in
theorem ggX5_readRights_J0_charAt_5068e : GoodIn wsX5_readRights wsJ0_charAt_5068e := goodIn_r2 cbX5_readRights_f _ [(2, 6), (1, 20), (2, 7), (2, 8), (2, 9), (1, 18), (2, 10), (2, 1), (2, 2), (2, 11), (2, 12), (2, 13), (2, 14), (2, 15), (2, 16), (2, 17), (2, 18), (2, 19), (2, 20), (2, 21), (2, 22), (2, 23), (3, 0), (3, 1), (3, 2), (3, 3), (3, 4), (3, 5), (3, 6), (3, 7), (3, 8), (3, 9), (3, 10), (3, 11), (3, 12), (3, 13), (3, 14), (3, 15)] rfl (by decide +kernel)
set_option maxRecDepth 20000 in
theorem gX5_readRights_J0_charAt_5068e : GoodIn wsX5_readRights (wsV RX5 96 RJ0 yJ0_charAt_5068e wsJ0_charAt_5068e) := goodIn_app (goodIn_of _ (by decide +kernel)) ggX5_readRights_J0_charAt_5068e
set_option maxRecDepth 20000 in
theorem ggX5_readPassed_X5_skip : GoodIn wsX5_readPassed wsX5_skip := goodIn_r _ [8, 1, 2, 9, 10, 11, 12, 13, 14, 15, 25, 26, 34, 35] rfl (by decide +kernel)
set_option maxRecDepth 20000 in
theorem gX5_readPassed_X5_skip : GoodIn wsX5_readPassed (wsV RX5 31 RX5 yX5_skip wsX5_skip) := goodIn_app (goodIn_of _ (by decide +kernel)) ggX5_readPassed_X5_skip
set_option maxRecDepth 20000 in
theorem ggX5_readPassed_X6_at : GoodIn wsX5_readPassed wsX6_at := goodIn_r _ [13, 14, 15, 34, 35] rfl (by decide +kernel)
set_option maxRecDepth 20000 in
theorem gX5_readPassed_X6_at : GoodIn wsX5_readPassed (wsV RX5 63 RX6 yX6_at wsX6_at) := goodIn_app (goodIn_of _ (by decide +kernel)) ggX5_readPassed_X6_at
set_option maxRecDepth 20000 in
theorem ggX5_readPassed_X11_squareOf : GoodIn wsX5_readPassed wsX11_squareOf := goodIn_r _ [18, 19, 20, 17, 21, 22, 23, 24] rfl (by decide +kernel)
set_option maxRecDepth 20000 in
theorem gX5_readPassed_X11_squareOf_n102 : GoodIn wsX5_readPassed (wsX11_squareOf) := ggX5_readPassed_X11_squareOf
set_option maxRecDepth 20000 in
theorem ggX5_readNumber_X6_at : GoodIn wsX5_readNumber wsX6_at := goodIn_r _ [7, 8, 9, 15, 16] rfl (by decide +kernel)
set_option maxRecDepth 20000 in
theorem gX5_readNumber_X6_at : GoodIn wsX5_readNumber (wsV RX5 63 RX6 yX6_at wsX6_at) := goodIn_app (goodIn_of _ (by decide +kernel)) ggX5_readNumber_X6_at
set_option maxRecDepth 20000 in
theorem ggX5_readNumber_X11_isDigit : GoodIn wsX5_readNumber wsX11_isDigit := goodIn_r _ [12] rfl (by decide +kernel)
set_option maxRecDepth 20000 in
theorem gX5_readNumber_X11_isDigit_n109 : GoodIn wsX5_readNumber (wsX11_isDigit) := ggX5_readNumber_X11_isDigit
set_option maxRecDepth 20000 in
theorem ggX5_readMoveNumber_X5_readNumber : GoodIn wsX5_readMoveNumber wsX5_readNumber := goodIn_r _ [6, 7, 8, 9, 10, 11, 12, 13, 14, 15, 16, 17, 18, 26, 27, 28, 29] rfl (by decide +kernel)
set_option maxRecDepth 20000 in
theorem gX5_readMoveNumber_X5_readNumber : GoodIn wsX5_readMoveNumber (wsV RX5 44 RX5 yX5_readNumber wsX5_readNumber) := goodIn_app (goodIn_of _ (by decide +kernel)) ggX5_readMoveNumber_X5_readNumber
set_option maxRecDepth 20000 in
theorem ggX5_hasSoundMen_X0_kindAt : GoodIn wsX5_hasSoundMen wsX0_kindAt := goodIn_r _ [7, 8, 23, 24, 25, 26, 27, 28, 29] rfl (by decide +kernel)
set_option maxRecDepth 20000 in
theorem gX5_hasSoundMen_X0_kindAt : GoodIn wsX5_hasSoundMen (wsV RX5 119 RX0 yX0_kindAt wsX0_kindAt) := goodIn_app (goodIn_of _ (by decide +kernel)) ggX5_hasSoundMen_X0_kindAt
set_option maxRecDepth 20000 in
theorem ggX5_hasSoundMen_X0_kingOf : GoodIn wsX5_hasSoundMen wsX0_kingOf := goodIn_r _ [12, 13, 14, 23, 24, 25, 26, 27, 28, 29] rfl (by decide +kernel)
set_option maxRecDepth 20000 in
theorem gX5_hasSoundMen_X0_kingOf : GoodIn wsX5_hasSoundMen (wsV RX5 122 RX0 yX0_kingOf wsX0_kingOf) := goodIn_app (goodIn_of _ (by decide +kernel)) ggX5_hasSoundMen_X0_kingOf
set_option maxRecDepth 20000 in
theorem ggX5_hasSoundMen_X0_attacked : GoodIn wsX5_hasSoundMen wsX0_attacked := goodIn_r _ [18, 8, 19, 20, 21, 6, 22, 23, 24, 25, 26, 27, 28, 29] rfl (by decide +kernel)
set_option maxRecDepth 20000 in
theorem gX5_hasSoundMen_X0_attacked : GoodIn wsX5_hasSoundMen (wsV RX5 125 RX0 yX0_attacked wsX0_attacked) := goodIn_app (goodIn_of _ (by decide +kernel)) ggX5_hasSoundMen_X0_attacked
set_option maxRecDepth 20000 in
theorem ggX5_hasSoundRights_J0_length_8abf5 : GoodIn wsX5_hasSoundRights wsJ0_length_8abf5 := goodIn_r _ [7, 8, 9, 10, 11, 6, 12, 13, 14] rfl (by decide +kernel)
set_option maxRecDepth 20000 in
theorem gX5_hasSoundRights_J0_length_8abf5 : GoodIn wsX5_hasSoundRights (wsV RX5 93 RJ0 yJ0_length_8abf5 wsJ0_length_8abf5) := goodIn_app (goodIn_of _ (by decide +kernel)) ggX5_hasSoundRights_J0_length_8abf5
set_option maxRecDepth 20000 in
theorem ggX5_hasSoundPassed_X0_pawnAttacks : GoodIn wsX5_hasSoundPassed wsX0_pawnAttacks := goodIn_r _ [8, 9, 10, 11, 12, 13, 14, 15, 16] rfl (by decide +kernel)
set_option maxRecDepth 20000 in
theorem gX5_hasSoundPassed_X0_pawnAttacks : GoodIn wsX5_hasSoundPassed (wsV RX5 129 RX0 yX0_pawnAttacks wsX0_pawnAttacks) := goodIn_app (goodIn_of _ (by decide +kernel)) ggX5_hasSoundPassed_X0_pawnAttacks
