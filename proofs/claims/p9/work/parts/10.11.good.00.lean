set_option maxRecDepth 20000 in
theorem ggX0_setUp_X0_wipe : GoodIn wsX0_setUp wsX0_wipe := goodIn_r _ [7, 8, 9, 2, 10, 11, 18, 19, 20, 21, 22, 23, 24] rfl (by decide +kernel)
set_option maxRecDepth 20000 in
theorem gX0_setUp_X0_wipe : GoodIn wsX0_setUp (wsV RX0 34 RX0 yX0_wipe wsX0_wipe) := goodIn_app (goodIn_of _ (by decide +kernel)) ggX0_setUp_X0_wipe
set_option maxRecDepth 20000 in
theorem ggX0_setUp_X0_put : GoodIn wsX0_setUp wsX0_put := goodIn_r _ [15, 8, 16, 17, 18, 19, 20, 21, 22, 23, 24] rfl (by decide +kernel)
set_option maxRecDepth 20000 in
theorem gX0_setUp_X0_put : GoodIn wsX0_setUp (wsV RX0 40 RX0 yX0_put wsX0_put) := goodIn_app (goodIn_of _ (by decide +kernel)) ggX0_setUp_X0_put
set_option maxRecDepth 20000 in
theorem ggX0_attacked_X0_attacks : GoodIn wsX0_attacked wsX0_attacks := goodIn_r _ [6, 1, 7, 8, 9, 10, 11, 12, 13] rfl (by decide +kernel)
set_option maxRecDepth 20000 in
theorem gX0_attacked_X0_attacks : GoodIn wsX0_attacked (wsV RX0 50 RX0 yX0_attacks wsX0_attacks) := goodIn_app (goodIn_of _ (by decide +kernel)) ggX0_attacked_X0_attacks
set_option maxRecDepth 20000 in
theorem ggX0_reaches_X0_kindAt : GoodIn wsX0_reaches wsX0_kindAt := goodIn_r _ [7, 1, 26, 27, 28, 29, 30, 31, 32] rfl (by decide +kernel)
set_option maxRecDepth 20000 in
theorem gX0_reaches_X0_kindAt : GoodIn wsX0_reaches (wsV RX0 54 RX0 yX0_kindAt wsX0_kindAt) := goodIn_app (goodIn_of _ (by decide +kernel)) ggX0_reaches_X0_kindAt
set_option maxRecDepth 20000 in
theorem ggX0_reaches_X0_pawnReaches : GoodIn wsX0_reaches wsX0_pawnReaches := goodIn_r _ [11, 2, 1, 12, 13, 14, 15, 6, 16, 26, 27, 28, 29, 30, 31, 32] rfl (by decide +kernel)
set_option maxRecDepth 20000 in
theorem gX0_reaches_X0_pawnReaches : GoodIn wsX0_reaches (wsV RX0 58 RX0 yX0_pawnReaches wsX0_pawnReaches) := goodIn_app (goodIn_of _ (by decide +kernel)) ggX0_reaches_X0_pawnReaches
set_option maxRecDepth 20000 in
theorem ggX0_reaches_X0_attacks : GoodIn wsX0_reaches wsX0_attacks := goodIn_r _ [16, 1, 26, 27, 28, 29, 30, 31, 32] rfl (by decide +kernel)
set_option maxRecDepth 20000 in
theorem gX0_reaches_X0_attacks : GoodIn wsX0_reaches (wsV RX0 50 RX0 yX0_attacks wsX0_attacks) := goodIn_app (goodIn_of _ (by decide +kernel)) ggX0_reaches_X0_attacks
set_option maxRecDepth 20000 in
theorem ggX0_reaches_X0_castles : GoodIn wsX0_reaches wsX0_castles := goodIn_r _ [20, 1, 26, 27, 28, 29, 30, 31, 32] rfl (by decide +kernel)
set_option maxRecDepth 20000 in
theorem gX0_reaches_X0_castles : GoodIn wsX0_reaches (wsV RX0 61 RX0 yX0_castles wsX0_castles) := goodIn_app (goodIn_of _ (by decide +kernel)) ggX0_reaches_X0_castles
set_option maxRecDepth 20000 in
theorem ggX0_reaches_X0_castlingIsOpen : GoodIn wsX0_reaches wsX0_castlingIsOpen := goodIn_r _ [24, 2, 25, 1, 26, 27, 28, 29, 30, 31, 32] rfl (by decide +kernel)
set_option maxRecDepth 20000 in
theorem gX0_reaches_X0_castlingIsOpen : GoodIn wsX0_reaches (wsV RX0 64 RX0 yX0_castlingIsOpen wsX0_castlingIsOpen) := goodIn_app (goodIn_of _ (by decide +kernel)) ggX0_reaches_X0_castlingIsOpen
set_option maxRecDepth 20000 in
theorem ggX0_pawnReaches_X0_attacks : GoodIn wsX0_pawnReaches wsX0_attacks := goodIn_r _ [8, 2, 9, 10, 11, 12, 13, 14, 15] rfl (by decide +kernel)
set_option maxRecDepth 20000 in
theorem gX0_pawnReaches_X0_attacks : GoodIn wsX0_pawnReaches (wsV RX0 50 RX0 yX0_attacks wsX0_attacks) := goodIn_app (goodIn_of _ (by decide +kernel)) ggX0_pawnReaches_X0_attacks
set_option maxRecDepth 20000 in
theorem ggX0_takes_X0_kindAt : GoodIn wsX0_takes wsX0_kindAt := goodIn_r _ [6, 1, 7, 8, 9, 10, 11, 12, 13] rfl (by decide +kernel)
set_option maxRecDepth 20000 in
theorem gX0_takes_X0_kindAt : GoodIn wsX0_takes (wsV RX0 54 RX0 yX0_kindAt wsX0_kindAt) := goodIn_app (goodIn_of _ (by decide +kernel)) ggX0_takes_X0_kindAt
set_option maxRecDepth 20000 in
theorem ggX0_becomesAnother_X0_kindAt : GoodIn wsX0_becomesAnother wsX0_kindAt := goodIn_r _ [5, 6, 7, 8, 9, 10, 11, 12, 13] rfl (by decide +kernel)
set_option maxRecDepth 20000 in
theorem gX0_becomesAnother_X0_kindAt : GoodIn wsX0_becomesAnother (wsV RX0 54 RX0 yX0_kindAt wsX0_kindAt) := goodIn_app (goodIn_of _ (by decide +kernel)) ggX0_becomesAnother_X0_kindAt
set_option maxRecDepth 20000 in
theorem ggX0_play_X0_kindAt : GoodIn wsX0_play wsX0_kindAt := goodIn_r _ [10, 2, 28, 29, 30, 31, 32, 33, 34] rfl (by decide +kernel)
set_option maxRecDepth 20000 in
theorem gX0_play_X0_kindAt : GoodIn wsX0_play (wsV RX0 54 RX0 yX0_kindAt wsX0_kindAt) := goodIn_app (goodIn_of _ (by decide +kernel)) ggX0_play_X0_kindAt
set_option maxRecDepth 20000 in
theorem ggX0_play_X0_castles : GoodIn wsX0_play wsX0_castles := goodIn_r _ [14, 2, 28, 29, 30, 31, 32, 33, 34] rfl (by decide +kernel)
set_option maxRecDepth 20000 in
theorem gX0_play_X0_castles : GoodIn wsX0_play (wsV RX0 61 RX0 yX0_castles wsX0_castles) := goodIn_app (goodIn_of _ (by decide +kernel)) ggX0_play_X0_castles
set_option maxRecDepth 20000 in
theorem ggX0_play_X0_put : GoodIn wsX0_play wsX0_put := goodIn_r _ [18, 2, 19, 20, 28, 29, 30, 31, 32, 33, 34] rfl (by decide +kernel)
set_option maxRecDepth 20000 in
theorem gX0_play_X0_put : GoodIn wsX0_play (wsV RX0 40 RX0 yX0_put wsX0_put) := goodIn_app (goodIn_of _ (by decide +kernel)) ggX0_play_X0_put
set_option maxRecDepth 20000 in
theorem ggX0_play_X0_rightsOf : GoodIn wsX0_play wsX0_rightsOf := goodIn_r _ [23] rfl (by decide +kernel)
set_option maxRecDepth 20000 in
theorem gX0_play_X0_rightsOf : GoodIn wsX0_play (va_wsS RX0 67 yX0_rightsOf wsX0_rightsOf) := goodIn_app (goodIn_of _ (by decide +kernel)) ggX0_play_X0_rightsOf
set_option maxRecDepth 20000 in
theorem ggX0_play_X0_pawnAttacks : GoodIn wsX0_play wsX0_pawnAttacks := goodIn_r _ [27, 2, 28, 29, 30, 31, 32, 33, 34] rfl (by decide +kernel)
set_option maxRecDepth 20000 in
theorem gX0_play_X0_pawnAttacks : GoodIn wsX0_play (wsV RX0 70 RX0 yX0_pawnAttacks wsX0_pawnAttacks) := goodIn_app (goodIn_of _ (by decide +kernel)) ggX0_play_X0_pawnAttacks
