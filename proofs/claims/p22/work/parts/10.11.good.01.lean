set_option maxRecDepth 20000 in
theorem ggX1_init_X0_init : GoodIn wsX1_init wsX0_init := goodIn_r _ [21, 22, 2, 3, 18, 23, 24, 25, 26, 27, 28, 29, 62, 63, 64, 65, 66, 67, 68] rfl (by decide +kernel)
set_option maxRecDepth 20000 in
theorem gX1_init_X0_init_n11 : GoodIn wsX1_init (wsX0_init) := ggX1_init_X0_init
set_option maxRecDepth 20000 in
theorem ggX1_init_X4_init : GoodIn wsX1_init wsX4_init := goodIn_r _ [31, 32, 2, 3, 33, 34, 35, 36, 37, 38, 39, 40, 41, 42, 43, 44, 45, 46, 47, 48, 77, 78, 79, 80, 81, 82, 83, 84, 85] rfl (by decide +kernel)
set_option maxRecDepth 20000 in
theorem gX1_init_X4_init_n20 : GoodIn wsX1_init (wsX4_init) := ggX1_init_X4_init
set_option maxRecDepth 20000 in
theorem ggX1_init_X0_setUp : GoodIn wsX1_init wsX0_setUp := goodIn_r _ [52, 53, 27, 54, 55, 56, 6, 57, 23, 26, 28, 29, 58, 59, 60, 61, 24, 25, 62, 63, 64, 65, 66, 67, 68] rfl (by decide +kernel)
set_option maxRecDepth 20000 in
theorem gX1_init_X0_setUp : GoodIn wsX1_init (wsV RX1 49 RX0 yX0_setUp wsX0_setUp) := goodIn_app (goodIn_of _ (by decide +kernel)) ggX1_init_X0_setUp
set_option maxRecDepth 20000 in
theorem ggX1_wipe_X0_setUp : GoodIn wsX1_wipe wsX0_setUp := goodIn_r _ [10, 11, 12, 13, 14, 15, 9, 16, 17, 18, 19, 20, 21, 22, 23, 24, 25, 26, 53, 54, 55, 56, 57, 58, 59] rfl (by decide +kernel)
set_option maxRecDepth 20000 in
theorem gX1_wipe_X0_setUp : GoodIn wsX1_wipe (wsV RX1 49 RX0 yX0_setUp wsX0_setUp) := goodIn_app (goodIn_of _ (by decide +kernel)) ggX1_wipe_X0_setUp
set_option maxRecDepth 20000 in
theorem ggX1_wipe_X4_become : GoodIn wsX1_wipe wsX4_become := goodIn_r _ [31, 32, 33, 34, 35, 36, 37, 38, 39, 40, 41, 42, 43, 44, 60, 61, 62, 63, 64, 65, 66, 67, 68] rfl (by decide +kernel)
set_option maxRecDepth 20000 in
theorem gX1_wipe_X4_become : GoodIn wsX1_wipe (wsV RX1 52 RX4 yX4_become wsX4_become) := goodIn_app (goodIn_of _ (by decide +kernel)) ggX1_wipe_X4_become
set_option maxRecDepth 20000 in
theorem ggX1_childWith_X1_at : GoodIn wsX1_childWith wsX1_at := goodIn_r _ [8, 9, 10, 11, 19, 20, 21, 22, 23, 24, 25, 26] rfl (by decide +kernel)
set_option maxRecDepth 20000 in
theorem gX1_childWith_X1_at : GoodIn wsX1_childWith (wsV RX1 56 RX1 yX1_at wsX1_at) := goodIn_app (goodIn_of _ (by decide +kernel)) ggX1_childWith_X1_at
set_option maxRecDepth 20000 in
theorem ggX1_grow_X1_at : GoodIn wsX1_grow wsX1_at := goodIn_r _ [12, 1, 4, 13, 43, 44, 45, 46, 47, 48, 49, 50] rfl (by decide +kernel)
set_option maxRecDepth 20000 in
theorem gX1_grow_X1_at : GoodIn wsX1_grow (wsV RX1 56 RX1 yX1_at wsX1_at) := goodIn_app (goodIn_of _ (by decide +kernel)) ggX1_grow_X1_at
set_option maxRecDepth 20000 in
theorem ggX1_grow_X4_init : GoodIn wsX1_grow wsX4_init := goodIn_r _ [15, 16, 17, 18, 19, 20, 21, 22, 23, 24, 25, 26, 27, 28, 29, 30, 31, 32, 33, 34, 51, 52, 53, 54, 55, 56, 57, 58, 59] rfl (by decide +kernel)
set_option maxRecDepth 20000 in
theorem gX1_grow_X4_init_n20 : GoodIn wsX1_grow (wsX4_init) := ggX1_grow_X4_init
set_option maxRecDepth 20000 in
theorem ggX1_grow_X4_become : GoodIn wsX1_grow wsX4_become := goodIn_r _ [38, 19, 20, 21, 22, 23, 24, 28, 39, 40, 41, 27, 42, 34, 51, 52, 53, 54, 55, 56, 57, 58, 59] rfl (by decide +kernel)
set_option maxRecDepth 20000 in
theorem gX1_grow_X4_become : GoodIn wsX1_grow (wsV RX1 52 RX4 yX4_become wsX4_become) := goodIn_app (goodIn_of _ (by decide +kernel)) ggX1_grow_X4_become
set_option maxRecDepth 20000 in
theorem ggX1_goesOn_X1_at : GoodIn wsX1_goesOn wsX1_at := goodIn_r _ [7, 8, 9, 10, 18, 19, 20, 21, 22, 23, 24, 25] rfl (by decide +kernel)
set_option maxRecDepth 20000 in
theorem gX1_goesOn_X1_at : GoodIn wsX1_goesOn (wsV RX1 56 RX1 yX1_at wsX1_at) := goodIn_app (goodIn_of _ (by decide +kernel)) ggX1_goesOn_X1_at
set_option maxRecDepth 20000 in
theorem ggX1_deepOfNext_X1_at : GoodIn wsX1_deepOfNext wsX1_at := goodIn_r _ [7, 8, 9, 10, 22, 23, 24, 25, 26, 27, 28, 29] rfl (by decide +kernel)
set_option maxRecDepth 20000 in
theorem gX1_deepOfNext_X1_at : GoodIn wsX1_deepOfNext (wsV RX1 56 RX1 yX1_at wsX1_at) := goodIn_app (goodIn_of _ (by decide +kernel)) ggX1_deepOfNext_X1_at
set_option maxRecDepth 20000 in
theorem ggX1_deepOfNext_X1_goesOn : GoodIn wsX1_deepOfNext wsX1_goesOn := goodIn_r _ [14, 2, 1, 3, 4, 5, 6, 7, 8, 9, 10, 15, 16, 17, 18, 19, 20, 21, 22, 23, 24, 25, 26, 27, 28, 29] rfl (by decide +kernel)
set_option maxRecDepth 20000 in
theorem gX1_deepOfNext_X1_goesOn : GoodIn wsX1_deepOfNext (wsV RX1 72 RX1 yX1_goesOn wsX1_goesOn) := goodIn_app (goodIn_of _ (by decide +kernel)) ggX1_deepOfNext_X1_goesOn
set_option maxRecDepth 20000 in
theorem ggX1_mayLead_X1_at : GoodIn wsX1_mayLead wsX1_at := goodIn_r _ [9, 2, 10, 11, 12, 13, 14, 15, 16, 17, 18, 19] rfl (by decide +kernel)
set_option maxRecDepth 20000 in
theorem gX1_mayLead_X1_at : GoodIn wsX1_mayLead (wsV RX1 56 RX1 yX1_at wsX1_at) := goodIn_app (goodIn_of _ (by decide +kernel)) ggX1_mayLead_X1_at
set_option maxRecDepth 20000 in
theorem ggX1_putFirst_X1_at : GoodIn wsX1_putFirst wsX1_at := goodIn_r _ [8, 9, 10, 11, 19, 20, 21, 22, 23, 24, 25, 26] rfl (by decide +kernel)
set_option maxRecDepth 20000 in
theorem gX1_putFirst_X1_at : GoodIn wsX1_putFirst (wsV RX1 56 RX1 yX1_at wsX1_at) := goodIn_app (goodIn_of _ (by decide +kernel)) ggX1_putFirst_X1_at
set_option maxRecDepth 20000 in
theorem ggX1_standAt_X1_at : GoodIn wsX1_standAt wsX1_at := goodIn_r _ [9, 10, 11, 12, 52, 53, 54, 55, 56, 57, 58, 59] rfl (by decide +kernel)
set_option maxRecDepth 20000 in
theorem gX1_standAt_X1_at : GoodIn wsX1_standAt (wsV RX1 56 RX1 yX1_at wsX1_at) := goodIn_app (goodIn_of _ (by decide +kernel)) ggX1_standAt_X1_at
set_option maxRecDepth 20000 in
theorem ggX1_standAt_X0_copyFrom : GoodIn wsX1_standAt wsX0_copyFrom := goodIn_r _ [17, 18, 19, 20, 21, 22, 23, 24, 25, 26, 27, 28, 67, 68, 69, 70, 71, 72, 73] rfl (by decide +kernel)
set_option maxRecDepth 20000 in
theorem gX1_standAt_X0_copyFrom : GoodIn wsX1_standAt (wsV RX1 76 RX0 yX0_copyFrom wsX0_copyFrom) := goodIn_app (goodIn_of _ (by decide +kernel)) ggX1_standAt_X0_copyFrom
set_option maxRecDepth 20000 in
theorem ggX1_standAt_X0_play : GoodIn wsX1_standAt wsX0_play := goodIn_r _ [32, 27, 18, 25, 26, 28, 33, 34, 35, 16, 36, 37, 38, 39, 40, 41, 42, 43, 44, 23, 24, 45, 46, 47, 48, 49, 50, 51, 67, 68, 69, 70, 71, 72, 73] rfl (by decide +kernel)
set_option maxRecDepth 20000 in
theorem gX1_standAt_X0_play : GoodIn wsX1_standAt (wsV RX1 80 RX0 yX0_play wsX0_play) := goodIn_app (goodIn_of _ (by decide +kernel)) ggX1_standAt_X0_play
set_option maxRecDepth 20000 in
theorem ggX1_tagAt_X10_init : GoodIn wsX1_tagAt wsX10_init := goodIn_r _ [7, 8, 9, 10, 11, 12, 13, 14, 15, 16, 17, 18, 19, 20, 21, 32, 33, 30, 31] rfl (by decide +kernel)
set_option maxRecDepth 20000 in
theorem gX1_tagAt_X10_init_n84 : GoodIn wsX1_tagAt (wsX10_init) := ggX1_tagAt_X10_init
set_option maxRecDepth 20000 in
theorem ggX1_hasTag_X1_tagAt : GoodIn wsX1_hasTag wsX1_tagAt := goodIn_r _ [7, 1, 8, 9, 10, 11, 12, 13, 14, 15, 16, 17, 18, 19, 20, 21, 22, 23, 24, 25, 26, 27, 36, 37, 38, 39, 40, 41, 42, 43, 44, 45, 46, 47] rfl (by decide +kernel)
set_option maxRecDepth 20000 in
theorem gX1_hasTag_X1_tagAt : GoodIn wsX1_hasTag (wsV RX1 85 RX1 yX1_tagAt wsX1_tagAt) := goodIn_app (goodIn_of _ (by decide +kernel)) ggX1_hasTag_X1_tagAt
set_option maxRecDepth 20000 in
theorem ggX1_hasTag_X6_isLike : GoodIn wsX1_hasTag wsX6_isLike := goodIn_r _ [31, 27, 26, 32, 33, 34, 19, 35, 46, 47] rfl (by decide +kernel)
set_option maxRecDepth 20000 in
theorem gX1_hasTag_X6_isLike : GoodIn wsX1_hasTag (wsV RX1 93 RX6 yX6_isLike wsX6_isLike) := goodIn_app (goodIn_of _ (by decide +kernel)) ggX1_hasTag_X6_isLike
set_option maxRecDepth 20000 in
theorem ggX1_putTag_X10_init : GoodIn wsX1_putTag wsX10_init := goodIn_r _ [9, 10, 11, 12, 13, 14, 15, 16, 17, 18, 19, 20, 21, 22, 23, 60, 61, 58, 59] rfl (by decide +kernel)
set_option maxRecDepth 20000 in
theorem gX1_putTag_X10_init_n84 : GoodIn wsX1_putTag (wsX10_init) := ggX1_putTag_X10_init
set_option maxRecDepth 20000 in
theorem ggX1_putTag_X1_tagAt : GoodIn wsX1_putTag wsX1_tagAt := goodIn_r _ [28, 1, 2, 3, 4, 5, 8, 9, 10, 11, 12, 13, 14, 15, 16, 17, 18, 19, 20, 21, 22, 23, 50, 51, 52, 53, 54, 55, 56, 57, 58, 59, 60, 61] rfl (by decide +kernel)
set_option maxRecDepth 20000 in
theorem gX1_putTag_X1_tagAt : GoodIn wsX1_putTag (wsV RX1 85 RX1 yX1_tagAt wsX1_tagAt) := goodIn_app (goodIn_of _ (by decide +kernel)) ggX1_putTag_X1_tagAt
set_option maxRecDepth 20000 in
theorem ggX1_putTag_X6_copyFrom : GoodIn wsX1_putTag wsX6_copyFrom := goodIn_r _ [32, 23, 33, 34, 35, 15, 36, 37, 38, 39, 40, 22, 41, 42, 43, 44, 45, 46, 47, 48, 49, 60, 61] rfl (by decide +kernel)
set_option maxRecDepth 20000 in
theorem gX1_putTag_X6_copyFrom : GoodIn wsX1_putTag (wsV RX1 99 RX6 yX6_copyFrom wsX6_copyFrom) := goodIn_app (goodIn_of _ (by decide +kernel)) ggX1_putTag_X6_copyFrom
set_option maxRecDepth 20000 in
theorem ggX1_agreesWith_X1_tagAt : GoodIn wsX1_agreesWith wsX1_tagAt := goodIn_r _ [8, 1, 9, 10, 11, 12, 13, 14, 15, 16, 17, 18, 19, 20, 21, 22, 23, 24, 25, 26, 27, 28, 89, 90, 91, 92, 93, 94, 95, 96, 97, 98, 99, 100] rfl (by decide +kernel)
set_option maxRecDepth 20000 in
theorem gX1_agreesWith_X1_tagAt : GoodIn wsX1_agreesWith (wsV RX1 85 RX1 yX1_tagAt wsX1_tagAt) := goodIn_app (goodIn_of _ (by decide +kernel)) ggX1_agreesWith_X1_tagAt
set_option maxRecDepth 20000 in
theorem ggX1_agreesWith_X6_is : GoodIn wsX1_agreesWith wsX6_is := goodIn_r _ [32, 28, 33, 34, 35, 36, 37, 38, 39, 40, 41, 42, 43, 44, 45, 46, 47, 20, 48, 27, 49, 50, 51, 52, 53, 54, 55, 56, 57, 58, 59, 60, 61, 62, 63, 64, 65, 66, 67, 68, 69, 70, 71, 72, 73, 74, 75, 76, 77, 78, 79, 80, 81, 82, 83, 84, 85, 99, 100] rfl (by decide +kernel)
set_option maxRecDepth 20000 in
theorem gX1_agreesWith_X6_is : GoodIn wsX1_agreesWith (wsV RX1 107 RX6 yX6_is wsX6_is) := goodIn_app (goodIn_of _ (by decide +kernel)) ggX1_agreesWith_X6_is
set_option maxRecDepth 20000 in
theorem ggX1_agreesWith_X11_resultSign : GoodIn wsX1_agreesWith wsX11_resultSign := goodIn_r _ [88] rfl (by decide +kernel)
set_option maxRecDepth 20000 in
theorem gX1_agreesWith_X11_resultSign_n111 : GoodIn wsX1_agreesWith (wsX11_resultSign) := ggX1_agreesWith_X11_resultSign
