set_option maxRecDepth 20000 in
theorem ggX1_init_X0_init : GoodIn wsX1_init wsX0_init := goodIn_r2 cbX1_init_f _ [(1, 20), (1, 21), (1, 1), (1, 2), (1, 17), (1, 22), (1, 23), (2, 0), (2, 1), (2, 2), (2, 3), (2, 4), (4, 0), (4, 1), (4, 2), (4, 3), (4, 4), (4, 5), (4, 6)] rfl (by decide +kernel)
set_option maxRecDepth 20000 in
theorem gX1_init_X0_init_n11 : GoodIn wsX1_init (wsX0_init) := ggX1_init_X0_init
set_option maxRecDepth 20000 in
theorem ggX1_init_X4_init : GoodIn wsX1_init wsX4_init := goodIn_r2 cbX1_init_f _ [(2, 6), (2, 7), (1, 1), (1, 2), (2, 8), (2, 9), (2, 10), (2, 11), (2, 12), (2, 13), (2, 14), (2, 15), (2, 16), (2, 17), (2, 18), (2, 19), (2, 20), (2, 21), (2, 22), (2, 23), (6, 0), (6, 1), (6, 2), (6, 3), (6, 4), (6, 5), (6, 6), (7, 0), (7, 1)] rfl (by decide +kernel)
set_option maxRecDepth 20000 in
theorem gX1_init_X4_init_n20 : GoodIn wsX1_init (wsX4_init) := ggX1_init_X4_init
set_option maxRecDepth 20000 in
theorem ggX1_init_X0_setUp : GoodIn wsX1_init wsX0_setUp := goodIn_r2 cbX1_init_f _ [(3, 3), (3, 4), (2, 2), (3, 5), (3, 6), (3, 7), (1, 5), (3, 8), (1, 22), (2, 1), (2, 3), (2, 4), (3, 9), (3, 10), (3, 11), (3, 12), (1, 23), (2, 0), (4, 0), (4, 1), (4, 2), (4, 3), (4, 4), (4, 5), (4, 6)] rfl (by decide +kernel)
set_option maxRecDepth 20000 in
theorem gX1_init_X0_setUp : GoodIn wsX1_init (wsV RX1 49 RX0 yX0_setUp wsX0_setUp) := goodIn_app (goodIn_of _ (by decide +kernel)) ggX1_init_X0_setUp
set_option maxRecDepth 20000 in
theorem ggX1_wipe_X0_setUp : GoodIn wsX1_wipe wsX0_setUp := goodIn_r2 cbX1_wipe_f _ [(1, 9), (1, 10), (1, 11), (1, 12), (1, 13), (1, 14), (1, 8), (1, 15), (1, 16), (1, 17), (1, 18), (1, 19), (1, 20), (1, 21), (1, 22), (1, 23), (2, 0), (2, 1), (4, 0), (4, 1), (4, 2), (4, 3), (4, 4), (4, 5), (4, 6)] rfl (by decide +kernel)
set_option maxRecDepth 20000 in
theorem gX1_wipe_X0_setUp : GoodIn wsX1_wipe (wsV RX1 49 RX0 yX0_setUp wsX0_setUp) := goodIn_app (goodIn_of _ (by decide +kernel)) ggX1_wipe_X0_setUp
set_option maxRecDepth 20000 in
theorem ggX1_wipe_X4_become : GoodIn wsX1_wipe wsX4_become := goodIn_r2 cbX1_wipe_f _ [(2, 6), (2, 7), (2, 8), (2, 9), (2, 10), (2, 11), (2, 12), (2, 13), (2, 14), (2, 15), (2, 16), (2, 17), (2, 18), (2, 19), (5, 0), (5, 1), (5, 2), (5, 3), (5, 4), (5, 5), (5, 6), (6, 0), (6, 1)] rfl (by decide +kernel)
set_option maxRecDepth 20000 in
theorem gX1_wipe_X4_become : GoodIn wsX1_wipe (wsV RX1 52 RX4 yX4_become wsX4_become) := goodIn_app (goodIn_of _ (by decide +kernel)) ggX1_wipe_X4_become
set_option maxRecDepth 20000 in
theorem ggX1_childWith_X1_at : GoodIn wsX1_childWith wsX1_at := goodIn_r _ [8, 9, 10, 11, 19, 20, 21, 22, 23, 24, 25, 26] rfl (by decide +kernel)
set_option maxRecDepth 20000 in
theorem gX1_childWith_X1_at : GoodIn wsX1_childWith (wsV RX1 56 RX1 yX1_at wsX1_at) := goodIn_app (goodIn_of _ (by decide +kernel)) ggX1_childWith_X1_at
set_option maxRecDepth 20000 in
theorem ggX1_grow_X1_at : GoodIn wsX1_grow wsX1_at := goodIn_r2 cbX1_grow_f _ [(1, 11), (1, 0), (1, 3), (1, 12), (3, 0), (3, 1), (3, 2), (3, 3), (3, 4), (3, 5), (3, 6), (3, 7)] rfl (by decide +kernel)
set_option maxRecDepth 20000 in
theorem gX1_grow_X1_at : GoodIn wsX1_grow (wsV RX1 56 RX1 yX1_at wsX1_at) := goodIn_app (goodIn_of _ (by decide +kernel)) ggX1_grow_X1_at
set_option maxRecDepth 20000 in
theorem ggX1_grow_X4_init : GoodIn wsX1_grow wsX4_init := goodIn_r2 cbX1_grow_f _ [(1, 14), (1, 15), (1, 16), (1, 17), (1, 18), (1, 19), (1, 20), (1, 21), (1, 22), (1, 23), (2, 0), (2, 1), (2, 2), (2, 3), (2, 4), (2, 5), (2, 6), (2, 7), (2, 8), (2, 9), (4, 0), (4, 1), (4, 2), (4, 3), (4, 4), (4, 5), (4, 6), (5, 0), (5, 1)] rfl (by decide +kernel)
set_option maxRecDepth 20000 in
theorem gX1_grow_X4_init_n20 : GoodIn wsX1_grow (wsX4_init) := ggX1_grow_X4_init
set_option maxRecDepth 20000 in
theorem ggX1_grow_X4_become : GoodIn wsX1_grow wsX4_become := goodIn_r2 cbX1_grow_f _ [(2, 13), (1, 18), (1, 19), (1, 20), (1, 21), (1, 22), (1, 23), (2, 3), (2, 14), (2, 15), (2, 16), (2, 2), (2, 17), (2, 9), (4, 0), (4, 1), (4, 2), (4, 3), (4, 4), (4, 5), (4, 6), (5, 0), (5, 1)] rfl (by decide +kernel)
set_option maxRecDepth 20000 in
theorem gX1_grow_X4_become : GoodIn wsX1_grow (wsV RX1 52 RX4 yX4_become wsX4_become) := goodIn_app (goodIn_of _ (by decide +kernel)) ggX1_grow_X4_become
set_option maxRecDepth 20000 in
theorem ggX1_goesOn_X1_at : GoodIn wsX1_goesOn wsX1_at := goodIn_r _ [7, 8, 9, 10, 18, 19, 20, 21, 22, 23, 24, 25] rfl (by decide +kernel)
set_option maxRecDepth 20000 in
theorem gX1_goesOn_X1_at : GoodIn wsX1_goesOn (wsV RX1 56 RX1 yX1_at wsX1_at) := goodIn_app (goodIn_of _ (by decide +kernel)) ggX1_goesOn_X1_at
set_option maxRecDepth 20000 in
theorem ggX1_deepOfNext_X1_at : GoodIn wsX1_deepOfNext wsX1_at := goodIn_r _ [7, 8, 9, 10, 22, 23, 24, 25, 26, 27, 28, 29] rfl (by decide +kernel)
set_option maxRecDepth 20000 in
theorem gX1_deepOfNext_X1_at : GoodIn wsX1_deepOfNext (wsV RX1 56 RX1 yX1_at wsX1_at) := goodIn_app (goodIn_of _ (by decide +kernel)) ggX1_deepOfNext_X1_at
set_option maxRecDepth 20000 in
theorem ggX1_deepOfNext_X1_goesOn : GoodIn wsX1_deepOfNext wsX1_goesOn := goodIn_r _ [14, 2, 1, 3, 4, 5, 6, 7, 8, 9, 10, 15, 16, 17, 18, 19, 20, 21, 22, 23, 24, 25, 26, 27, 28, 29] rfl (by decide +kernel)
set_option maxRecDepth 20000 in
theorem gX1_deepOfNext_X1_goesOn : GoodIn wsX1_deepOfNext (wsV RX1 72 RX1 yX1_goesOn wsX1_goesOn) := goodIn_app (goodIn_of _ (by decide +kernel)) ggX1_deepOfNext_X1_goesOn
set_option maxRecDepth 20000 in
theorem ggX1_mayLead_X1_at : GoodIn wsX1_mayLead wsX1_at := goodIn_r _ [9, 2, 10, 11, 12, 13, 14, 15, 16, 17, 18, 19] rfl (by decide +kernel)
set_option maxRecDepth 20000 in
theorem gX1_mayLead_X1_at : GoodIn wsX1_mayLead (wsV RX1 56 RX1 yX1_at wsX1_at) := goodIn_app (goodIn_of _ (by decide +kernel)) ggX1_mayLead_X1_at
set_option maxRecDepth 20000 in
theorem ggX1_putFirst_X1_at : GoodIn wsX1_putFirst wsX1_at := goodIn_r _ [8, 9, 10, 11, 19, 20, 21, 22, 23, 24, 25, 26] rfl (by decide +kernel)
set_option maxRecDepth 20000 in
theorem gX1_putFirst_X1_at : GoodIn wsX1_putFirst (wsV RX1 56 RX1 yX1_at wsX1_at) := goodIn_app (goodIn_of _ (by decide +kernel)) ggX1_putFirst_X1_at
set_option maxRecDepth 20000 in
theorem ggX1_standAt_X1_at : GoodIn wsX1_standAt wsX1_at := goodIn_r2 cbX1_standAt_f _ [(1, 8), (1, 9), (1, 10), (1, 11), (4, 0), (4, 1), (4, 2), (4, 3), (4, 4), (4, 5), (4, 6), (4, 7)] rfl (by decide +kernel)
set_option maxRecDepth 20000 in
theorem gX1_standAt_X1_at : GoodIn wsX1_standAt (wsV RX1 56 RX1 yX1_at wsX1_at) := goodIn_app (goodIn_of _ (by decide +kernel)) ggX1_standAt_X1_at
set_option maxRecDepth 20000 in
theorem ggX1_standAt_X0_copyFrom : GoodIn wsX1_standAt wsX0_copyFrom := goodIn_r2 cbX1_standAt_f _ [(1, 16), (1, 17), (1, 18), (1, 19), (1, 20), (1, 21), (1, 22), (1, 23), (2, 0), (2, 1), (2, 2), (2, 3), (6, 0), (6, 1), (6, 2), (6, 3), (6, 4), (6, 5), (6, 6)] rfl (by decide +kernel)
set_option maxRecDepth 20000 in
theorem gX1_standAt_X0_copyFrom : GoodIn wsX1_standAt (wsV RX1 76 RX0 yX0_copyFrom wsX0_copyFrom) := goodIn_app (goodIn_of _ (by decide +kernel)) ggX1_standAt_X0_copyFrom
set_option maxRecDepth 20000 in
theorem ggX1_standAt_X0_play : GoodIn wsX1_standAt wsX0_play := goodIn_r2 cbX1_standAt_f _ [(2, 7), (2, 2), (1, 17), (2, 0), (2, 1), (2, 3), (2, 8), (2, 9), (2, 10), (1, 15), (2, 11), (2, 12), (2, 13), (2, 14), (2, 15), (2, 16), (2, 17), (2, 18), (2, 19), (1, 22), (1, 23), (2, 20), (2, 21), (2, 22), (2, 23), (3, 0), (3, 1), (3, 2), (6, 0), (6, 1), (6, 2), (6, 3), (6, 4), (6, 5), (6, 6)] rfl (by decide +kernel)
set_option maxRecDepth 20000 in
theorem gX1_standAt_X0_play : GoodIn wsX1_standAt (wsV RX1 80 RX0 yX0_play wsX0_play) := goodIn_app (goodIn_of _ (by decide +kernel)) ggX1_standAt_X0_play
set_option maxRecDepth 20000 in
theorem ggX1_tagAt_X10_init : GoodIn wsX1_tagAt wsX10_init := goodIn_r _ [7, 8, 9, 10, 11, 12, 13, 14, 15, 16, 17, 18, 19, 20, 21, 32, 33, 30, 31] rfl (by decide +kernel)
set_option maxRecDepth 20000 in
theorem gX1_tagAt_X10_init_n84 : GoodIn wsX1_tagAt (wsX10_init) := ggX1_tagAt_X10_init
set_option maxRecDepth 20000 in
theorem ggX1_hasTag_X1_tagAt : GoodIn wsX1_hasTag wsX1_tagAt := goodIn_r2 cbX1_hasTag_f _ [(1, 6), (1, 0), (1, 7), (1, 8), (1, 9), (1, 10), (1, 11), (1, 12), (1, 13), (1, 14), (1, 15), (1, 16), (1, 17), (1, 18), (1, 19), (1, 20), (1, 21), (1, 22), (1, 23), (2, 0), (2, 1), (2, 2), (3, 0), (3, 1), (3, 2), (3, 3), (3, 4), (3, 5), (3, 6), (3, 7), (4, 0), (4, 1), (5, 0), (5, 1)] rfl (by decide +kernel)
set_option maxRecDepth 20000 in
theorem gX1_hasTag_X1_tagAt : GoodIn wsX1_hasTag (wsV RX1 85 RX1 yX1_tagAt wsX1_tagAt) := goodIn_app (goodIn_of _ (by decide +kernel)) ggX1_hasTag_X1_tagAt
set_option maxRecDepth 20000 in
theorem ggX1_hasTag_X6_isLike : GoodIn wsX1_hasTag wsX6_isLike := goodIn_r2 cbX1_hasTag_f _ [(2, 6), (2, 2), (2, 1), (2, 7), (2, 8), (2, 9), (1, 18), (2, 10), (5, 0), (5, 1)] rfl (by decide +kernel)
set_option maxRecDepth 20000 in
theorem gX1_hasTag_X6_isLike : GoodIn wsX1_hasTag (wsV RX1 93 RX6 yX6_isLike wsX6_isLike) := goodIn_app (goodIn_of _ (by decide +kernel)) ggX1_hasTag_X6_isLike
set_option maxRecDepth 20000 in
theorem ggX1_putTag_X10_init : GoodIn wsX1_putTag wsX10_init := goodIn_r2 cbX1_putTag_f _ [(1, 8), (1, 9), (1, 10), (1, 11), (1, 12), (1, 13), (1, 14), (1, 15), (1, 16), (1, 17), (1, 18), (1, 19), (1, 20), (1, 21), (1, 22), (6, 0), (6, 1), (5, 0), (5, 1)] rfl (by decide +kernel)
set_option maxRecDepth 20000 in
theorem gX1_putTag_X10_init_n84 : GoodIn wsX1_putTag (wsX10_init) := ggX1_putTag_X10_init
set_option maxRecDepth 20000 in
theorem ggX1_putTag_X1_tagAt : GoodIn wsX1_putTag wsX1_tagAt := goodIn_r2 cbX1_putTag_f _ [(2, 3), (1, 0), (1, 1), (1, 2), (1, 3), (1, 4), (1, 7), (1, 8), (1, 9), (1, 10), (1, 11), (1, 12), (1, 13), (1, 14), (1, 15), (1, 16), (1, 17), (1, 18), (1, 19), (1, 20), (1, 21), (1, 22), (4, 0), (4, 1), (4, 2), (4, 3), (4, 4), (4, 5), (4, 6), (4, 7), (5, 0), (5, 1), (6, 0), (6, 1)] rfl (by decide +kernel)
set_option maxRecDepth 20000 in
theorem gX1_putTag_X1_tagAt : GoodIn wsX1_putTag (wsV RX1 85 RX1 yX1_tagAt wsX1_tagAt) := goodIn_app (goodIn_of _ (by decide +kernel)) ggX1_putTag_X1_tagAt
set_option maxRecDepth 20000 in
theorem ggX1_putTag_X6_copyFrom : GoodIn wsX1_putTag wsX6_copyFrom := goodIn_r2 cbX1_putTag_f _ [(2, 7), (1, 22), (2, 8), (2, 9), (2, 10), (1, 14), (2, 11), (2, 12), (2, 13), (2, 14), (2, 15), (1, 21), (2, 16), (2, 17), (2, 18), (2, 19), (2, 20), (2, 21), (2, 22), (2, 23), (3, 0), (6, 0), (6, 1)] rfl (by decide +kernel)
set_option maxRecDepth 20000 in
theorem gX1_putTag_X6_copyFrom : GoodIn wsX1_putTag (wsV RX1 99 RX6 yX6_copyFrom wsX6_copyFrom) := goodIn_app (goodIn_of _ (by decide +kernel)) ggX1_putTag_X6_copyFrom
set_option maxRecDepth 20000 in
theorem ggX1_agreesWith_X1_tagAt : GoodIn wsX1_agreesWith wsX1_tagAt := goodIn_r2 cbX1_agreesWith_f _ [(1, 7), (1, 0), (1, 8), (1, 9), (1, 10), (1, 11), (1, 12), (1, 13), (1, 14), (1, 15), (1, 16), (1, 17), (1, 18), (1, 19), (1, 20), (1, 21), (1, 22), (1, 23), (2, 0), (2, 1), (2, 2), (2, 3), (5, 0), (5, 1), (5, 2), (5, 3), (5, 4), (5, 5), (5, 6), (5, 7), (6, 0), (6, 1), (7, 0), (7, 1)] rfl (by decide +kernel)
set_option maxRecDepth 20000 in
theorem gX1_agreesWith_X1_tagAt : GoodIn wsX1_agreesWith (wsV RX1 85 RX1 yX1_tagAt wsX1_tagAt) := goodIn_app (goodIn_of _ (by decide +kernel)) ggX1_agreesWith_X1_tagAt
set_option maxRecDepth 20000 in
theorem ggX1_agreesWith_X6_is : GoodIn wsX1_agreesWith wsX6_is := goodIn_r2 cbX1_agreesWith_f _ [(2, 7), (2, 3), (2, 8), (2, 9), (2, 10), (2, 11), (2, 12), (2, 13), (2, 14), (2, 15), (2, 16), (2, 17), (2, 18), (2, 19), (2, 20), (2, 21), (2, 22), (1, 19), (2, 23), (2, 2), (3, 0), (3, 1), (3, 2), (3, 3), (3, 4), (3, 5), (3, 6), (3, 7), (3, 8), (3, 9), (3, 10), (3, 11), (3, 12), (3, 13), (3, 14), (3, 15), (3, 16), (3, 17), (3, 18), (3, 19), (3, 20), (3, 21), (3, 22), (3, 23), (4, 0), (4, 1), (4, 2), (4, 3), (4, 4), (4, 5), (4, 6), (4, 7), (4, 8), (4, 9), (4, 10), (4, 11), (4, 12), (7, 0), (7, 1)] rfl (by decide +kernel)
set_option maxRecDepth 20000 in
theorem gX1_agreesWith_X6_is : GoodIn wsX1_agreesWith (wsV RX1 107 RX6 yX6_is wsX6_is) := goodIn_app (goodIn_of _ (by decide +kernel)) ggX1_agreesWith_X6_is
set_option maxRecDepth 20000 in
theorem ggX1_agreesWith_X11_resultSign : GoodIn wsX1_agreesWith wsX11_resultSign := goodIn_r2 cbX1_agreesWith_f _ [(4, 15)] rfl (by decide +kernel)
set_option maxRecDepth 20000 in
theorem gX1_agreesWith_X11_resultSign_n111 : GoodIn wsX1_agreesWith (wsX11_resultSign) := ggX1_agreesWith_X11_resultSign
