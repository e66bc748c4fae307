set_option maxRecDepth 20000 in
theorem ggX2_init_X8_init : GoodIn wsX2_init wsX8_init := goodIn_r2 cbX2_init_f _ [(2, 8), (2, 9), (1, 1), (1, 2), (2, 10), (2, 11), (2, 12), (2, 13), (2, 14), (1, 12), (1, 13), (2, 15), (1, 23), (2, 16), (2, 17), (2, 18), (2, 19), (2, 20), (2, 5), (2, 6), (2, 21), (2, 22), (2, 23), (3, 0), (3, 1), (3, 2), (3, 3), (3, 4), (3, 5), (3, 6), (3, 7), (3, 8), (3, 9), (3, 10), (3, 11), (3, 12), (3, 13), (3, 14), (12, 0), (12, 1), (6, 0), (6, 1), (6, 2), (6, 3), (6, 4), (6, 5), (6, 6), (6, 7), (6, 8), (6, 9), (6, 10), (6, 11), (9, 0), (9, 1), (11, 0), (11, 1), (11, 2), (11, 3), (11, 4), (11, 5), (11, 6)] rfl (by decide +kernel)
set_option maxRecDepth 20000 in
theorem gX2_init_X8_init_n11 : GoodIn wsX2_init (wsX8_init) := ggX2_init_X8_init
set_option maxRecDepth 20000 in
theorem ggX2_init_X5_init : GoodIn wsX2_init wsX5_init := goodIn_r2 cbX2_init_f _ [(3, 16), (3, 17), (1, 1), (1, 2), (3, 18), (1, 12), (1, 13), (3, 19), (3, 20), (3, 9), (3, 10), (3, 11), (3, 12), (3, 13), (3, 14), (9, 0), (9, 1), (8, 0), (8, 1)] rfl (by decide +kernel)
set_option maxRecDepth 20000 in
theorem gX2_init_X5_init_n20 : GoodIn wsX2_init (wsX5_init) := ggX2_init_X5_init
set_option maxRecDepth 20000 in
theorem ggX2_init_X6_init : GoodIn wsX2_init wsX6_init := goodIn_r2 cbX2_init_f _ [(3, 10), (3, 11), (1, 1), (1, 2), (3, 12), (3, 13), (3, 14), (9, 0), (9, 1)] rfl (by decide +kernel)
set_option maxRecDepth 20000 in
theorem gX2_init_X6_init_n27 : GoodIn wsX2_init (wsX6_init) := ggX2_init_X6_init
set_option maxRecDepth 20000 in
theorem ggX2_init_X1_init : GoodIn wsX2_init wsX1_init := goodIn_r2 cbX2_init_f _ [(3, 23), (4, 0), (1, 1), (1, 2), (4, 1), (2, 5), (2, 6), (4, 2), (4, 3), (4, 4), (4, 5), (4, 6), (4, 7), (4, 8), (4, 9), (4, 10), (4, 11), (4, 12), (1, 23), (4, 13), (2, 23), (3, 0), (3, 1), (3, 2), (3, 3), (3, 4), (3, 5), (3, 6), (3, 7), (3, 8), (4, 14), (4, 15), (4, 16), (4, 17), (4, 18), (4, 19), (4, 20), (4, 21), (4, 22), (4, 23), (1, 12), (1, 13), (5, 0), (3, 9), (3, 10), (3, 11), (3, 12), (3, 13), (3, 14), (5, 1), (5, 2), (5, 3), (5, 4), (5, 5), (5, 6), (5, 7), (5, 8), (5, 9), (5, 10), (5, 11), (5, 12), (5, 13), (11, 0), (11, 1), (11, 2), (11, 3), (11, 4), (11, 5), (11, 6), (10, 0), (10, 1), (10, 2), (10, 3), (10, 4), (10, 5), (10, 6), (10, 7), (13, 0), (13, 1), (13, 2), (13, 3), (13, 4), (13, 5), (13, 6), (9, 0), (9, 1)] rfl (by decide +kernel)
set_option maxRecDepth 20000 in
theorem gX2_init_X1_init : GoodIn wsX2_init (wsX1_init) := ggX2_init_X1_init
set_option maxRecDepth 20000 in
theorem ggX2_init_X0_init : GoodIn wsX2_init wsX0_init := goodIn_r2 cbX2_init_f _ [(3, 0), (3, 1), (1, 1), (1, 2), (1, 23), (3, 2), (3, 3), (3, 4), (3, 5), (3, 6), (3, 7), (3, 8), (11, 0), (11, 1), (11, 2), (11, 3), (11, 4), (11, 5), (11, 6)] rfl (by decide +kernel)
set_option maxRecDepth 20000 in
theorem gX2_init_X0_init_n68 : GoodIn wsX2_init (wsX0_init) := ggX2_init_X0_init
set_option maxRecDepth 20000 in
theorem ggX2_begin_X1_wipe : GoodIn wsX2_begin wsX1_wipe := goodIn_r2 cbX2_begin_f _ [(1, 8), (1, 9), (1, 10), (1, 11), (1, 12), (1, 13), (1, 14), (1, 15), (1, 16), (1, 17), (1, 18), (1, 19), (1, 20), (1, 21), (1, 22), (1, 23), (2, 0), (2, 1), (2, 2), (2, 3), (2, 4), (2, 5), (2, 6), (2, 7), (2, 8), (2, 9), (2, 10), (2, 11), (2, 12), (2, 13), (2, 14), (2, 15), (2, 16), (2, 17), (2, 18), (2, 19), (2, 20), (2, 21), (2, 22), (2, 23), (3, 0), (3, 1), (3, 2), (3, 3), (3, 4), (5, 0), (5, 1), (5, 2), (5, 3), (5, 4), (5, 5), (5, 6), (5, 7), (6, 0), (6, 1), (6, 2), (6, 3), (6, 4), (6, 5), (6, 6), (7, 0), (7, 1), (7, 2), (7, 3), (7, 4), (7, 5), (7, 6), (8, 0), (8, 1)] rfl (by decide +kernel)
set_option maxRecDepth 20000 in
theorem gX2_begin_X1_wipe : GoodIn wsX2_begin (wsV RX2 69 RX1 yX1_wipe wsX1_wipe) := goodIn_app (goodIn_of _ (by decide +kernel)) ggX2_begin_X1_wipe
set_option maxRecDepth 20000 in
theorem ggX2_skipBlanks_X6_size : GoodIn wsX2_skipBlanks wsX6_size := goodIn_r _ [7, 8, 26, 27] rfl (by decide +kernel)
set_option maxRecDepth 20000 in
theorem gX2_skipBlanks_X6_size : GoodIn wsX2_skipBlanks (wsV RX2 72 RX6 yX6_size wsX6_size) := goodIn_app (goodIn_of _ (by decide +kernel)) ggX2_skipBlanks_X6_size
set_option maxRecDepth 20000 in
theorem ggX2_skipBlanks_X6_at : GoodIn wsX2_skipBlanks wsX6_at := goodIn_r _ [12, 8, 13, 26, 27] rfl (by decide +kernel)
set_option maxRecDepth 20000 in
theorem gX2_skipBlanks_X6_at : GoodIn wsX2_skipBlanks (wsV RX2 76 RX6 yX6_at wsX6_at) := goodIn_app (goodIn_of _ (by decide +kernel)) ggX2_skipBlanks_X6_at
set_option maxRecDepth 20000 in
theorem ggX2_readHead_X2_skipBlanks : GoodIn wsX2_readHead wsX2_skipBlanks := goodIn_r2 cbX2_readHead_f _ [(1, 7), (1, 1), (1, 0), (1, 8), (1, 9), (1, 10), (1, 11), (1, 12), (1, 13), (1, 14), (1, 15), (1, 16), (1, 17), (1, 18), (16, 0), (16, 1), (16, 2), (16, 3), (16, 4), (16, 5), (16, 6), (16, 7), (16, 8), (16, 9), (16, 10), (16, 11), (17, 0), (17, 1)] rfl (by decide +kernel)
set_option maxRecDepth 20000 in
theorem gX2_readHead_X2_skipBlanks : GoodIn wsX2_readHead (wsV RX2 79 RX2 yX2_skipBlanks wsX2_skipBlanks) := goodIn_app (goodIn_of _ (by decide +kernel)) ggX2_readHead_X2_skipBlanks
set_option maxRecDepth 20000 in
theorem ggX2_readHead_X6_at : GoodIn wsX2_readHead wsX6_at := goodIn_r2 cbX2_readHead_f _ [(1, 17), (1, 13), (1, 18), (17, 0), (17, 1)] rfl (by decide +kernel)
set_option maxRecDepth 20000 in
theorem gX2_readHead_X6_at : GoodIn wsX2_readHead (wsV RX2 76 RX6 yX6_at wsX6_at) := goodIn_app (goodIn_of _ (by decide +kernel)) ggX2_readHead_X6_at
set_option maxRecDepth 20000 in
theorem ggX2_readHead_X2_readTag : GoodIn wsX2_readHead wsX2_readTag := goodIn_r2 cbX2_readHead_f _ [(1, 22), (1, 1), (1, 0), (1, 2), (1, 23), (2, 0), (2, 1), (2, 2), (2, 3), (2, 4), (2, 5), (2, 6), (1, 6), (2, 7), (1, 3), (1, 4), (1, 5), (1, 7), (1, 8), (1, 9), (1, 10), (1, 11), (1, 12), (1, 13), (1, 14), (1, 15), (1, 16), (1, 17), (1, 18), (2, 8), (2, 9), (2, 10), (2, 11), (2, 12), (2, 13), (2, 14), (2, 15), (2, 16), (2, 17), (2, 18), (2, 19), (2, 20), (2, 21), (2, 22), (2, 23), (3, 0), (3, 1), (3, 2), (3, 3), (3, 4), (3, 5), (3, 6), (3, 7), (3, 8), (3, 9), (3, 10), (3, 11), (3, 12), (3, 13), (3, 14), (3, 15), (3, 16), (3, 17), (3, 18), (3, 19), (3, 20), (3, 21), (3, 22), (3, 23), (4, 0), (4, 1), (4, 2), (4, 3), (4, 4), (4, 5), (4, 6), (4, 7), (4, 8), (4, 9), (4, 10), (4, 11), (4, 12), (4, 13), (4, 14), (4, 15), (4, 16), (4, 17), (4, 18), (4, 19), (4, 20), (4, 21), (4, 22), (4, 23), (5, 0), (5, 1), (5, 2), (5, 3), (5, 4), (5, 5), (5, 6), (5, 7), (5, 8), (5, 9), (5, 10), (5, 11), (5, 12), (5, 13), (5, 14), (5, 15), (5, 16), (5, 17), (5, 18), (5, 19), (5, 20), (5, 21), (5, 22), (5, 23), (6, 0), (6, 1), (6, 2), (6, 3), (6, 4), (6, 5), (6, 6), (6, 7), (6, 8), (6, 9), (6, 10), (6, 11), (6, 12), (6, 13), (6, 14), (6, 15), (6, 16), (6, 17), (6, 18), (6, 19), (6, 20), (6, 21), (6, 22), (6, 23), (7, 0), (7, 1), (7, 2), (7, 3), (7, 4), (7, 5), (7, 6), (7, 7), (7, 8), (7, 9), (7, 10), (7, 11), (7, 12), (7, 13), (7, 14), (7, 15), (7, 16), (7, 17), (7, 18), (7, 19), (7, 20), (7, 21), (7, 22), (7, 23), (8, 0), (8, 1), (8, 2), (8, 3), (8, 4), (8, 5), (8, 6), (8, 7), (8, 8), (8, 9), (8, 10), (8, 11), (8, 12), (8, 13), (8, 14), (8, 15), (8, 16), (8, 17), (8, 18), (8, 19), (8, 20), (8, 21), (8, 22), (8, 23), (9, 0), (9, 1), (9, 2), (9, 3), (9, 4), (9, 5), (9, 6), (9, 7), (9, 8), (9, 9), (9, 10), (9, 11), (9, 12), (9, 13), (9, 14), (9, 15), (9, 16), (9, 17), (9, 18), (9, 19), (9, 20), (9, 21), (9, 22), (9, 23), (10, 0), (10, 1), (10, 2), (10, 3), (10, 4), (10, 5), (10, 6), (10, 7), (10, 8), (10, 9), (10, 10), (10, 11), (10, 12), (10, 13), (10, 14), (10, 15), (10, 16), (10, 17), (10, 18), (10, 19), (10, 20), (10, 21), (10, 22), (10, 23), (11, 0), (11, 1), (11, 2), (11, 3), (11, 4), (11, 5), (11, 6), (11, 7), (11, 8), (11, 9), (11, 10), (11, 11), (11, 12), (11, 13), (11, 14), (11, 15), (11, 16), (11, 17), (11, 18), (11, 19), (11, 20), (11, 21), (11, 22), (11, 23), (12, 0), (12, 1), (12, 2), (12, 3), (12, 4), (12, 5), (12, 6), (12, 7), (12, 8), (12, 9), (12, 10), (12, 11), (12, 12), (12, 13), (12, 14), (12, 15), (12, 16), (12, 17), (12, 18), (12, 19), (12, 20), (12, 21), (12, 22), (12, 23), (13, 0), (13, 1), (13, 2), (13, 3), (13, 4), (13, 5), (13, 6), (13, 7), (13, 8), (13, 9), (13, 10), (13, 11), (13, 12), (13, 13), (13, 14), (13, 15), (13, 16), (13, 17), (13, 18), (13, 19), (13, 20), (13, 21), (13, 22), (13, 23), (14, 0), (14, 1), (14, 2), (14, 3), (14, 4), (14, 5), (14, 6), (14, 7), (14, 8), (14, 9), (14, 10), (14, 11), (14, 12), (16, 0), (16, 1), (16, 2), (16, 3), (16, 4), (16, 5), (16, 6), (16, 7), (16, 8), (16, 9), (16, 10), (16, 11), (18, 0), (18, 1), (18, 2), (18, 3), (18, 4), (18, 5), (18, 6), (18, 7), (17, 0), (17, 1), (19, 0), (19, 1), (20, 0), (20, 1), (21, 0), (21, 1), (21, 2), (21, 3), (21, 4), (21, 5), (21, 6)] rfl (by decide +kernel)
set_option maxRecDepth 20000 in
theorem gX2_readHead_X2_readTag : GoodIn wsX2_readHead (wsV RX2 82 RX2 yX2_readTag wsX2_readTag) := goodIn_app (goodIn_of _ (by decide +kernel)) ggX2_readHead_X2_readTag
set_option maxRecDepth 20000 in
theorem ggX2_readHead_X1_at : GoodIn wsX2_readHead wsX1_at := goodIn_r2 cbX2_readHead_f _ [(14, 16), (14, 17), (14, 18), (14, 19), (18, 0), (18, 1), (18, 2), (18, 3), (18, 4), (18, 5), (18, 6), (18, 7)] rfl (by decide +kernel)
set_option maxRecDepth 20000 in
theorem gX2_readHead_X1_at : GoodIn wsX2_readHead (wsV RX2 86 RX1 yX1_at wsX1_at) := goodIn_app (goodIn_of _ (by decide +kernel)) ggX2_readHead_X1_at
set_option maxRecDepth 20000 in
theorem ggX2_readHead_X2_readRemarks : GoodIn wsX2_readHead wsX2_readRemarks := goodIn_r2 cbX2_readHead_f _ [(14, 23), (1, 0), (1, 1), (1, 3), (1, 4), (1, 5), (1, 6), (1, 7), (1, 8), (1, 9), (1, 10), (1, 11), (1, 12), (1, 13), (1, 14), (1, 15), (1, 16), (1, 17), (1, 18), (15, 0), (15, 1), (15, 2), (15, 3), (15, 4), (9, 6), (9, 3), (9, 7), (15, 5), (15, 6), (15, 7), (15, 8), (15, 9), (9, 2), (9, 4), (3, 2), (3, 3), (3, 4), (3, 5), (3, 6), (15, 10), (15, 11), (15, 12), (15, 13), (15, 14), (15, 15), (15, 16), (15, 17), (2, 18), (2, 19), (2, 20), (2, 21), (2, 22), (2, 23), (3, 0), (3, 1), (15, 18), (16, 0), (16, 1), (16, 2), (16, 3), (16, 4), (16, 5), (16, 6), (16, 7), (16, 8), (16, 9), (16, 10), (16, 11), (17, 0), (17, 1), (22, 0), (22, 1), (22, 2), (22, 3), (22, 4), (22, 5), (22, 6)] rfl (by decide +kernel)
set_option maxRecDepth 20000 in
theorem gX2_readHead_X2_readRemarks : GoodIn wsX2_readHead (wsV RX2 89 RX2 yX2_readRemarks wsX2_readRemarks) := goodIn_app (goodIn_of _ (by decide +kernel)) ggX2_readHead_X2_readRemarks
set_option maxRecDepth 20000 in
theorem ggX2_readTag_X2_readName : GoodIn wsX2_readTag wsX2_readName := goodIn_r2 cbX2_readTag_f _ [(1, 12), (1, 0), (1, 4), (1, 1), (1, 13), (1, 14), (1, 15), (1, 11), (1, 16), (1, 17), (1, 18), (1, 19), (1, 20), (1, 21), (1, 22), (1, 23), (2, 0), (2, 1), (2, 2), (2, 3), (2, 4), (2, 5), (2, 6), (2, 7), (2, 8), (2, 9), (2, 10), (2, 11), (2, 12), (2, 13), (2, 14), (2, 15), (2, 16), (2, 17), (2, 18), (2, 19), (2, 20), (2, 21), (2, 22), (2, 23), (3, 0), (3, 1), (3, 2), (15, 0), (15, 1), (15, 2), (15, 3), (15, 4), (15, 5), (15, 6), (15, 7), (15, 8), (15, 9), (15, 10), (15, 11), (17, 0), (17, 1)] rfl (by decide +kernel)
set_option maxRecDepth 20000 in
theorem gX2_readTag_X2_readName : GoodIn wsX2_readTag (wsV RX2 93 RX2 yX2_readName wsX2_readName) := goodIn_app (goodIn_of _ (by decide +kernel)) ggX2_readTag_X2_readName
set_option maxRecDepth 20000 in
theorem ggX2_readTag_X2_readValue : GoodIn wsX2_readTag wsX2_readValue := goodIn_r2 cbX2_readTag_f _ [(3, 6), (1, 1), (1, 0), (1, 5), (1, 13), (1, 14), (1, 15), (1, 11), (1, 16), (1, 17), (1, 18), (1, 19), (1, 20), (1, 21), (1, 22), (1, 23), (2, 0), (2, 1), (2, 2), (2, 3), (2, 22), (2, 23), (3, 0), (3, 1), (3, 2), (2, 4), (2, 5), (2, 6), (2, 7), (2, 13), (2, 14), (2, 15), (2, 16), (2, 17), (2, 18), (2, 19), (2, 20), (2, 21), (15, 0), (15, 1), (15, 2), (15, 3), (15, 4), (15, 5), (15, 6), (15, 7), (15, 8), (15, 9), (15, 10), (15, 11), (17, 0), (17, 1)] rfl (by decide +kernel)
set_option maxRecDepth 20000 in
theorem gX2_readTag_X2_readValue : GoodIn wsX2_readTag (wsV RX2 96 RX2 yX2_readValue wsX2_readValue) := goodIn_app (goodIn_of _ (by decide +kernel)) ggX2_readTag_X2_readValue
set_option maxRecDepth 20000 in
theorem ggX2_readTag_X2_skipBlanks : GoodIn wsX2_readTag wsX2_skipBlanks := goodIn_r2 cbX2_readTag_f _ [(1, 16), (1, 0), (1, 1), (1, 17), (1, 18), (1, 19), (1, 20), (1, 21), (1, 22), (1, 23), (2, 0), (2, 1), (2, 2), (2, 3), (15, 0), (15, 1), (15, 2), (15, 3), (15, 4), (15, 5), (15, 6), (15, 7), (15, 8), (15, 9), (15, 10), (15, 11), (17, 0), (17, 1)] rfl (by decide +kernel)
set_option maxRecDepth 20000 in
theorem gX2_readTag_X2_skipBlanks : GoodIn wsX2_readTag (wsV RX2 79 RX2 yX2_skipBlanks wsX2_skipBlanks) := goodIn_app (goodIn_of _ (by decide +kernel)) ggX2_readTag_X2_skipBlanks
set_option maxRecDepth 20000 in
theorem ggX2_readTag_X6_at : GoodIn wsX2_readTag wsX6_at := goodIn_r2 cbX2_readTag_f _ [(2, 2), (1, 22), (2, 3), (17, 0), (17, 1)] rfl (by decide +kernel)
set_option maxRecDepth 20000 in
theorem gX2_readTag_X6_at : GoodIn wsX2_readTag (wsV RX2 76 RX6 yX6_at wsX6_at) := goodIn_app (goodIn_of _ (by decide +kernel)) ggX2_readTag_X6_at
set_option maxRecDepth 20000 in
theorem ggX2_readTag_X2_refuse : GoodIn wsX2_readTag wsX2_refuse := goodIn_r2 cbX2_readTag_f _ [(3, 1), (3, 2), (15, 0), (15, 1), (15, 2), (15, 3), (15, 4), (15, 5), (15, 6), (15, 7), (15, 8), (15, 9), (15, 10), (15, 11)] rfl (by decide +kernel)
set_option maxRecDepth 20000 in
theorem gX2_readTag_X2_refuse : GoodIn wsX2_readTag (wsV RX2 99 RX2 yX2_refuse wsX2_refuse) := goodIn_app (goodIn_of _ (by decide +kernel)) ggX2_readTag_X2_refuse
set_option maxRecDepth 20000 in
theorem ggX2_readTag_X6_size : GoodIn wsX2_readTag wsX6_size := goodIn_r2 cbX2_readTag_f _ [(1, 21), (1, 22), (17, 0), (17, 1)] rfl (by decide +kernel)
set_option maxRecDepth 20000 in
theorem gX2_readTag_X6_size : GoodIn wsX2_readTag (wsV RX2 72 RX6 yX6_size wsX6_size) := goodIn_app (goodIn_of _ (by decide +kernel)) ggX2_readTag_X6_size
set_option maxRecDepth 20000 in
theorem ggX2_readTag_X1_hasTag : GoodIn wsX2_readTag wsX1_hasTag := goodIn_r2 cbX2_readTag_f _ [(3, 11), (3, 12), (3, 13), (3, 14), (3, 15), (3, 16), (3, 10), (3, 17), (3, 18), (3, 19), (3, 20), (3, 21), (3, 22), (3, 23), (4, 0), (4, 1), (4, 2), (4, 3), (4, 4), (1, 20), (4, 5), (4, 6), (4, 7), (4, 8), (4, 9), (4, 10), (2, 3), (1, 22), (4, 11), (4, 12), (4, 13), (4, 14), (4, 15), (2, 0), (2, 1), (2, 2), (16, 0), (16, 1), (16, 2), (16, 3), (16, 4), (16, 5), (16, 6), (16, 7), (18, 0), (18, 1), (17, 0), (17, 1)] rfl (by decide +kernel)
set_option maxRecDepth 20000 in
theorem gX2_readTag_X1_hasTag : GoodIn wsX2_readTag (wsV RX2 106 RX1 yX1_hasTag wsX1_hasTag) := goodIn_app (goodIn_of _ (by decide +kernel)) ggX2_readTag_X1_hasTag
set_option maxRecDepth 20000 in
theorem ggX2_readTag_X6_is : GoodIn wsX2_readTag wsX6_is := goodIn_r2 cbX2_readTag_f _ [(4, 19), (1, 22), (4, 20), (4, 21), (4, 22), (4, 23), (5, 0), (5, 1), (5, 2), (5, 3), (5, 4), (5, 5), (5, 6), (5, 7), (5, 8), (5, 9), (5, 10), (1, 20), (5, 11), (2, 3), (5, 12), (5, 13), (5, 14), (5, 15), (5, 16), (5, 17), (5, 18), (5, 19), (5, 20), (5, 21), (5, 22), (5, 23), (6, 0), (6, 1), (6, 2), (6, 3), (6, 4), (6, 5), (6, 6), (6, 7), (6, 8), (6, 9), (6, 10), (6, 11), (6, 12), (6, 13), (6, 14), (6, 15), (6, 16), (6, 17), (6, 18), (6, 19), (6, 20), (6, 21), (6, 22), (6, 23), (7, 0), (17, 0), (17, 1)] rfl (by decide +kernel)
set_option maxRecDepth 20000 in
theorem gX2_readTag_X6_is : GoodIn wsX2_readTag (wsV RX2 112 RX6 yX6_is wsX6_is) := goodIn_app (goodIn_of _ (by decide +kernel)) ggX2_readTag_X6_is
set_option maxRecDepth 20000 in
theorem ggX2_readTag_X5_readInto : GoodIn wsX2_readTag wsX5_readInto := goodIn_r2 cbX2_readTag_f _ [(7, 5), (7, 6), (7, 7), (7, 8), (7, 9), (7, 10), (7, 11), (7, 12), (7, 13), (7, 14), (7, 15), (7, 16), (7, 17), (7, 18), (7, 19), (7, 20), (7, 4), (7, 21), (7, 22), (7, 23), (8, 0), (8, 1), (8, 2), (2, 0), (2, 1), (1, 20), (2, 2), (1, 22), (2, 3), (8, 3), (8, 4), (8, 5), (8, 6), (8, 7), (2, 9), (8, 8), (2, 8), (2, 10), (8, 9), (8, 10), (8, 11), (4, 23), (8, 12), (8, 13), (8, 14), (8, 15), (8, 16), (5, 1), (5, 16), (5, 17), (5, 18), (5, 19), (5, 6), (5, 7), (8, 17), (4, 21), (4, 22), (5, 0), (5, 2), (5, 3), (5, 4), (5, 5), (8, 18), (8, 19), (5, 22), (8, 20), (8, 21), (8, 22), (8, 23), (9, 0), (9, 1), (9, 2), (9, 3), (9, 4), (9, 5), (9, 6), (9, 7), (9, 8), (9, 9), (9, 10), (9, 11), (6, 10), (9, 12), (9, 13), (9, 14), (9, 15), (9, 16), (9, 17), (9, 18), (9, 19), (9, 20), (9, 21), (6, 15), (6, 16), (6, 17), (9, 22), (9, 23), (10, 0), (6, 3), (10, 1), (10, 2), (6, 6), (10, 3), (10, 4), (10, 5), (10, 6), (6, 19), (6, 20), (6, 21), (6, 22), (6, 23), (7, 0), (10, 7), (10, 8), (10, 9), (10, 10), (10, 11), (10, 12), (10, 13), (10, 14), (10, 15), (10, 16), (10, 17), (10, 18), (10, 19), (10, 20), (10, 21), (10, 22), (10, 23), (11, 0), (11, 1), (11, 2), (11, 3), (11, 4), (11, 5), (11, 6), (11, 7), (11, 8), (11, 9), (11, 10), (11, 11), (11, 12), (11, 13), (11, 14), (11, 15), (5, 13), (5, 14), (5, 15), (5, 20), (5, 21), (5, 23), (6, 0), (6, 1), (6, 2), (6, 4), (6, 5), (6, 7), (6, 8), (6, 9), (6, 11), (6, 12), (6, 13), (6, 14), (6, 18), (11, 16), (11, 17), (11, 18), (11, 19), (11, 20), (11, 21), (11, 22), (11, 23), (12, 0), (12, 1), (12, 2), (12, 3), (12, 4), (12, 5), (12, 6), (2, 11), (2, 12), (12, 7), (12, 8), (12, 9), (12, 10), (12, 11), (12, 12), (1, 18), (1, 19), (1, 21), (12, 13), (12, 14), (12, 15), (12, 16), (12, 17), (12, 18), (12, 19), (12, 20), (12, 21), (12, 22), (12, 23), (13, 0), (13, 1), (13, 2), (13, 3), (13, 4), (13, 5), (13, 6), (13, 7), (13, 8), (13, 9), (13, 10), (13, 11), (13, 12), (13, 13), (13, 14), (13, 15), (13, 16), (13, 17), (13, 18), (19, 0), (19, 1), (20, 0), (20, 1), (20, 2), (20, 3), (20, 4), (20, 5), (20, 6), (17, 0), (17, 1)] rfl (by decide +kernel)
set_option maxRecDepth 20000 in
theorem gX2_readTag_X5_readInto : GoodIn wsX2_readTag (wsV RX2 120 RX5 yX5_readInto wsX5_readInto) := goodIn_app (goodIn_of _ (by decide +kernel)) ggX2_readTag_X5_readInto
set_option maxRecDepth 20000 in
theorem ggX2_readTag_X1_putTag : GoodIn wsX2_readTag wsX1_putTag := goodIn_r2 cbX2_readTag_f _ [(13, 22), (3, 12), (3, 18), (3, 19), (3, 20), (3, 21), (3, 13), (13, 23), (3, 22), (3, 23), (4, 0), (4, 1), (4, 2), (4, 3), (4, 4), (1, 20), (4, 5), (4, 6), (4, 7), (4, 8), (4, 9), (4, 10), (2, 3), (1, 22), (3, 14), (3, 15), (3, 16), (3, 10), (3, 17), (14, 0), (14, 1), (14, 2), (14, 3), (14, 4), (14, 5), (14, 6), (14, 7), (4, 15), (2, 0), (2, 1), (2, 2), (14, 8), (2, 14), (2, 15), (2, 16), (2, 17), (2, 18), (2, 19), (2, 20), (2, 21), (16, 0), (16, 1), (16, 2), (16, 3), (16, 4), (16, 5), (16, 6), (16, 7), (18, 0), (18, 1), (17, 0), (17, 1)] rfl (by decide +kernel)
set_option maxRecDepth 20000 in
theorem gX2_readTag_X1_putTag : GoodIn wsX2_readTag (wsV RX2 124 RX1 yX1_putTag wsX1_putTag) := goodIn_app (goodIn_of _ (by decide +kernel)) ggX2_readTag_X1_putTag
set_option maxRecDepth 20000 in
theorem ggX2_readName_X2_skipBlanks : GoodIn wsX2_readName wsX2_skipBlanks := goodIn_r2 cbX2_readName_f _ [(1, 7), (1, 0), (1, 2), (1, 8), (1, 9), (1, 10), (1, 11), (1, 12), (1, 13), (1, 14), (1, 15), (1, 16), (1, 17), (1, 18), (3, 0), (3, 1), (3, 2), (3, 3), (3, 4), (3, 5), (3, 6), (3, 7), (3, 8), (3, 9), (3, 10), (3, 11), (4, 0), (4, 1)] rfl (by decide +kernel)
set_option maxRecDepth 20000 in
theorem gX2_readName_X2_skipBlanks : GoodIn wsX2_readName (wsV RX2 79 RX2 yX2_skipBlanks wsX2_skipBlanks) := goodIn_app (goodIn_of _ (by decide +kernel)) ggX2_readName_X2_skipBlanks
set_option maxRecDepth 20000 in
theorem ggX2_readName_X6_keep : GoodIn wsX2_readName wsX6_keep := goodIn_r2 cbX2_readName_f _ [(1, 22), (1, 13), (4, 0), (4, 1)] rfl (by decide +kernel)
set_option maxRecDepth 20000 in
theorem gX2_readName_X6_keep : GoodIn wsX2_readName (wsV RX2 128 RX6 yX6_keep wsX6_keep) := goodIn_app (goodIn_of _ (by decide +kernel)) ggX2_readName_X6_keep
set_option maxRecDepth 20000 in
theorem ggX2_readName_X6_size : GoodIn wsX2_readName wsX6_size := goodIn_r2 cbX2_readName_f _ [(1, 12), (1, 13), (4, 0), (4, 1)] rfl (by decide +kernel)
set_option maxRecDepth 20000 in
theorem gX2_readName_X6_size : GoodIn wsX2_readName (wsV RX2 72 RX6 yX6_size wsX6_size) := goodIn_app (goodIn_of _ (by decide +kernel)) ggX2_readName_X6_size
set_option maxRecDepth 20000 in
theorem ggX2_readName_X6_at : GoodIn wsX2_readName wsX6_at := goodIn_r2 cbX2_readName_f _ [(1, 17), (1, 13), (1, 18), (4, 0), (4, 1)] rfl (by decide +kernel)
set_option maxRecDepth 20000 in
theorem gX2_readName_X6_at : GoodIn wsX2_readName (wsV RX2 76 RX6 yX6_at wsX6_at) := goodIn_app (goodIn_of _ (by decide +kernel)) ggX2_readName_X6_at
set_option maxRecDepth 20000 in
theorem ggX2_readName_X11_isLetter : GoodIn wsX2_readName wsX11_isLetter := goodIn_r _ [26] rfl (by decide +kernel)
set_option maxRecDepth 20000 in
theorem gX2_readName_X11_isLetter_n132 : GoodIn wsX2_readName (wsX11_isLetter) := ggX2_readName_X11_isLetter
set_option maxRecDepth 20000 in
theorem ggX2_readName_X11_isDigit : GoodIn wsX2_readName wsX11_isDigit := goodIn_r _ [28] rfl (by decide +kernel)
set_option maxRecDepth 20000 in
theorem gX2_readName_X11_isDigit_n136 : GoodIn wsX2_readName (wsX11_isDigit) := ggX2_readName_X11_isDigit
set_option maxRecDepth 20000 in
theorem ggX2_readName_X6_put : GoodIn wsX2_readName wsX6_put := goodIn_r2 cbX2_readName_f _ [(2, 7), (1, 13), (1, 18), (2, 8), (2, 9), (2, 10), (2, 11), (2, 12), (4, 0), (4, 1)] rfl (by decide +kernel)
set_option maxRecDepth 20000 in
theorem gX2_readName_X6_put : GoodIn wsX2_readName (wsV RX2 139 RX6 yX6_put wsX6_put) := goodIn_app (goodIn_of _ (by decide +kernel)) ggX2_readName_X6_put
set_option maxRecDepth 20000 in
theorem ggX2_readName_X2_refuse : GoodIn wsX2_readName wsX2_refuse := goodIn_r2 cbX2_readName_f _ [(2, 16), (2, 17), (3, 0), (3, 1), (3, 2), (3, 3), (3, 4), (3, 5), (3, 6), (3, 7), (3, 8), (3, 9), (3, 10), (3, 11)] rfl (by decide +kernel)
set_option maxRecDepth 20000 in
theorem gX2_readName_X2_refuse : GoodIn wsX2_readName (wsV RX2 99 RX2 yX2_refuse wsX2_refuse) := goodIn_app (goodIn_of _ (by decide +kernel)) ggX2_readName_X2_refuse
set_option maxRecDepth 20000 in
theorem ggX2_readValue_X2_skipBlanks : GoodIn wsX2_readValue wsX2_skipBlanks := goodIn_r2 cbX2_readValue_f _ [(1, 7), (1, 1), (1, 0), (1, 8), (1, 9), (1, 10), (1, 11), (1, 12), (1, 13), (1, 14), (1, 15), (1, 16), (1, 17), (1, 18), (3, 0), (3, 1), (3, 2), (3, 3), (3, 4), (3, 5), (3, 6), (3, 7), (3, 8), (3, 9), (3, 10), (3, 11), (4, 0), (4, 1)] rfl (by decide +kernel)
set_option maxRecDepth 20000 in
theorem gX2_readValue_X2_skipBlanks : GoodIn wsX2_readValue (wsV RX2 79 RX2 yX2_skipBlanks wsX2_skipBlanks) := goodIn_app (goodIn_of _ (by decide +kernel)) ggX2_readValue_X2_skipBlanks
set_option maxRecDepth 20000 in
theorem ggX2_readValue_X6_at : GoodIn wsX2_readValue wsX6_at := goodIn_r2 cbX2_readValue_f _ [(1, 17), (1, 13), (1, 18), (4, 0), (4, 1)] rfl (by decide +kernel)
set_option maxRecDepth 20000 in
theorem gX2_readValue_X6_at : GoodIn wsX2_readValue (wsV RX2 76 RX6 yX6_at wsX6_at) := goodIn_app (goodIn_of _ (by decide +kernel)) ggX2_readValue_X6_at
set_option maxRecDepth 20000 in
theorem ggX2_readValue_X2_refuse : GoodIn wsX2_readValue wsX2_refuse := goodIn_r2 cbX2_readValue_f _ [(1, 22), (1, 23), (3, 0), (3, 1), (3, 2), (3, 3), (3, 4), (3, 5), (3, 6), (3, 7), (3, 8), (3, 9), (3, 10), (3, 11)] rfl (by decide +kernel)
set_option maxRecDepth 20000 in
theorem gX2_readValue_X2_refuse : GoodIn wsX2_readValue (wsV RX2 99 RX2 yX2_refuse wsX2_refuse) := goodIn_app (goodIn_of _ (by decide +kernel)) ggX2_readValue_X2_refuse
set_option maxRecDepth 20000 in
theorem ggX2_readValue_X6_keep : GoodIn wsX2_readValue wsX6_keep := goodIn_r2 cbX2_readValue_f _ [(2, 3), (1, 13), (4, 0), (4, 1)] rfl (by decide +kernel)
set_option maxRecDepth 20000 in
theorem gX2_readValue_X6_keep : GoodIn wsX2_readValue (wsV RX2 128 RX6 yX6_keep wsX6_keep) := goodIn_app (goodIn_of _ (by decide +kernel)) ggX2_readValue_X6_keep
set_option maxRecDepth 20000 in
theorem ggX2_readValue_X6_size : GoodIn wsX2_readValue wsX6_size := goodIn_r2 cbX2_readValue_f _ [(1, 12), (1, 13), (4, 0), (4, 1)] rfl (by decide +kernel)
set_option maxRecDepth 20000 in
theorem gX2_readValue_X6_size : GoodIn wsX2_readValue (wsV RX2 72 RX6 yX6_size wsX6_size) := goodIn_app (goodIn_of _ (by decide +kernel)) ggX2_readValue_X6_size
set_option maxRecDepth 20000 in
theorem ggX2_readValue_X6_put : GoodIn wsX2_readValue wsX6_put := goodIn_r2 cbX2_readValue_f _ [(2, 7), (1, 13), (1, 18), (2, 8), (2, 9), (2, 10), (2, 11), (2, 12), (4, 0), (4, 1)] rfl (by decide +kernel)
set_option maxRecDepth 20000 in
theorem gX2_readValue_X6_put : GoodIn wsX2_readValue (wsV RX2 139 RX6 yX6_put wsX6_put) := goodIn_app (goodIn_of _ (by decide +kernel)) ggX2_readValue_X6_put
set_option maxRecDepth 20000 in
theorem ggX2_readRemarks_X2_skipBlanks : GoodIn wsX2_readRemarks wsX2_skipBlanks := goodIn_r2 cbX2_readRemarks_f _ [(1, 6), (1, 1), (1, 0), (1, 7), (1, 8), (1, 9), (1, 10), (1, 11), (1, 12), (1, 13), (1, 14), (1, 15), (1, 16), (1, 17), (4, 0), (4, 1), (4, 2), (4, 3), (4, 4), (4, 5), (4, 6), (4, 7), (4, 8), (4, 9), (4, 10), (4, 11), (5, 0), (5, 1)] rfl (by decide +kernel)
set_option maxRecDepth 20000 in
theorem gX2_readRemarks_X2_skipBlanks : GoodIn wsX2_readRemarks (wsV RX2 79 RX2 yX2_skipBlanks wsX2_skipBlanks) := goodIn_app (goodIn_of _ (by decide +kernel)) ggX2_readRemarks_X2_skipBlanks
set_option maxRecDepth 20000 in
theorem ggX2_readRemarks_X6_at : GoodIn wsX2_readRemarks wsX6_at := goodIn_r2 cbX2_readRemarks_f _ [(1, 16), (1, 12), (1, 17), (5, 0), (5, 1)] rfl (by decide +kernel)
set_option maxRecDepth 20000 in
theorem gX2_readRemarks_X6_at : GoodIn wsX2_readRemarks (wsV RX2 76 RX6 yX6_at wsX6_at) := goodIn_app (goodIn_of _ (by decide +kernel)) ggX2_readRemarks_X6_at
set_option maxRecDepth 20000 in
theorem ggX2_readRemarks_X2_readRemark : GoodIn wsX2_readRemarks wsX2_readRemark := goodIn_r2 cbX2_readRemarks_f _ [(1, 21), (1, 1), (1, 0), (1, 22), (1, 23), (2, 0), (2, 1), (1, 13), (1, 14), (1, 15), (1, 10), (1, 16), (1, 12), (1, 17), (2, 2), (2, 3), (2, 4), (2, 5), (2, 6), (2, 7), (2, 8), (1, 7), (1, 8), (1, 9), (1, 11), (2, 9), (2, 10), (2, 11), (1, 5), (2, 12), (2, 13), (2, 14), (2, 15), (2, 16), (2, 17), (2, 18), (2, 19), (2, 20), (2, 21), (2, 22), (2, 23), (3, 0), (3, 1), (3, 2), (3, 3), (3, 4), (3, 5), (3, 6), (4, 0), (4, 1), (4, 2), (4, 3), (4, 4), (4, 5), (4, 6), (4, 7), (4, 8), (4, 9), (4, 10), (4, 11), (5, 0), (5, 1), (6, 0), (6, 1), (6, 2), (6, 3), (6, 4), (6, 5), (6, 6)] rfl (by decide +kernel)
set_option maxRecDepth 20000 in
theorem gX2_readRemarks_X2_readRemark : GoodIn wsX2_readRemarks (wsV RX2 143 RX2 yX2_readRemark wsX2_readRemark) := goodIn_app (goodIn_of _ (by decide +kernel)) ggX2_readRemarks_X2_readRemark
set_option maxRecDepth 20000 in
theorem ggX2_readRemark_X6_at : GoodIn wsX2_readRemark wsX6_at := goodIn_r2 cbX2_readRemark_f _ [(1, 10), (1, 11), (1, 12), (4, 0), (4, 1)] rfl (by decide +kernel)
set_option maxRecDepth 20000 in
theorem gX2_readRemark_X6_at : GoodIn wsX2_readRemark (wsV RX2 76 RX6 yX6_at wsX6_at) := goodIn_app (goodIn_of _ (by decide +kernel)) ggX2_readRemark_X6_at
set_option maxRecDepth 20000 in
theorem ggX2_readRemark_X6_indexOf : GoodIn wsX2_readRemark wsX6_indexOf := goodIn_r2 cbX2_readRemark_f _ [(1, 16), (1, 17), (1, 18), (1, 4), (1, 19), (1, 11), (1, 12), (4, 0), (4, 1)] rfl (by decide +kernel)
set_option maxRecDepth 20000 in
theorem gX2_readRemark_X6_indexOf : GoodIn wsX2_readRemark (wsV RX2 146 RX6 yX6_indexOf wsX6_indexOf) := goodIn_app (goodIn_of _ (by decide +kernel)) ggX2_readRemark_X6_indexOf
set_option maxRecDepth 20000 in
theorem ggX2_readRemark_X6_size : GoodIn wsX2_readRemark wsX6_size := goodIn_r2 cbX2_readRemark_f _ [(1, 23), (1, 11), (4, 0), (4, 1)] rfl (by decide +kernel)
set_option maxRecDepth 20000 in
theorem gX2_readRemark_X6_size : GoodIn wsX2_readRemark (wsV RX2 72 RX6 yX6_size wsX6_size) := goodIn_app (goodIn_of _ (by decide +kernel)) ggX2_readRemark_X6_size
set_option maxRecDepth 20000 in
theorem ggX2_readRemark_X2_refuse : GoodIn wsX2_readRemark wsX2_refuse := goodIn_r2 cbX2_readRemark_f _ [(2, 4), (2, 5), (3, 0), (3, 1), (3, 2), (3, 3), (3, 4), (3, 5), (3, 6), (3, 7), (3, 8), (3, 9), (3, 10), (3, 11)] rfl (by decide +kernel)
set_option maxRecDepth 20000 in
theorem gX2_readRemark_X2_refuse : GoodIn wsX2_readRemark (wsV RX2 99 RX2 yX2_refuse wsX2_refuse) := goodIn_app (goodIn_of _ (by decide +kernel)) ggX2_readRemark_X2_refuse
set_option maxRecDepth 20000 in
theorem ggX2_readRemark_X4_joinRemark : GoodIn wsX2_readRemark wsX4_joinRemark := goodIn_r2 cbX2_readRemark_f _ [(2, 10), (2, 11), (2, 12), (1, 21), (1, 22), (1, 9), (1, 23), (1, 11), (2, 13), (2, 14), (2, 15), (2, 16), (1, 12), (2, 17), (2, 18), (2, 19), (2, 20), (2, 21), (2, 22), (1, 7), (1, 8), (1, 10), (5, 0), (5, 1), (5, 2), (5, 3), (5, 4), (5, 5), (5, 6), (4, 0), (4, 1)] rfl (by decide +kernel)
set_option maxRecDepth 20000 in
theorem gX2_readRemark_X4_joinRemark : GoodIn wsX2_readRemark (wsV RX2 150 RX4 yX4_joinRemark wsX4_joinRemark) := goodIn_app (goodIn_of _ (by decide +kernel)) ggX2_readRemark_X4_joinRemark
set_option maxRecDepth 20000 in
theorem ggX2_readMoves_X0_copyFrom : GoodIn wsX2_readMoves wsX0_copyFrom := goodIn_r2 cbX2_readMoves_f _ [(1, 11), (1, 12), (1, 13), (1, 14), (1, 15), (1, 16), (1, 17), (1, 18), (1, 19), (1, 20), (1, 21), (1, 22), (21, 0), (21, 1), (21, 2), (21, 3), (21, 4), (21, 5), (21, 6)] rfl (by decide +kernel)
set_option maxRecDepth 20000 in
theorem gX2_readMoves_X0_copyFrom : GoodIn wsX2_readMoves (wsV RX2 162 RX0 yX0_copyFrom wsX0_copyFrom) := goodIn_app (goodIn_of _ (by decide +kernel)) ggX2_readMoves_X0_copyFrom
set_option maxRecDepth 20000 in
theorem ggX2_readMoves_X2_skipBlanks : GoodIn wsX2_readMoves wsX2_skipBlanks := goodIn_r2 cbX2_readMoves_f _ [(2, 3), (1, 6), (1, 5), (2, 4), (2, 5), (2, 6), (2, 7), (2, 8), (2, 9), (2, 10), (2, 11), (2, 12), (2, 13), (2, 14), (19, 0), (19, 1), (19, 2), (19, 3), (19, 4), (19, 5), (19, 6), (19, 7), (19, 8), (19, 9), (19, 10), (19, 11), (22, 0), (22, 1)] rfl (by decide +kernel)
set_option maxRecDepth 20000 in
theorem gX2_readMoves_X2_skipBlanks : GoodIn wsX2_readMoves (wsV RX2 79 RX2 yX2_skipBlanks wsX2_skipBlanks) := goodIn_app (goodIn_of _ (by decide +kernel)) ggX2_readMoves_X2_skipBlanks
set_option maxRecDepth 20000 in
theorem ggX2_readMoves_X2_resultHere : GoodIn wsX2_readMoves wsX2_resultHere := goodIn_r2 cbX2_readMoves_f _ [(2, 18), (1, 5), (1, 6), (2, 19), (2, 20), (2, 21), (2, 22), (2, 23), (3, 0), (2, 7), (3, 1), (2, 9), (2, 14), (3, 2), (3, 3), (3, 4), (3, 5), (3, 6), (3, 7), (3, 8), (3, 9), (3, 10), (3, 11), (3, 12), (3, 13), (3, 14), (3, 15), (3, 16), (3, 17), (3, 18), (3, 19), (3, 20), (3, 21), (3, 22), (3, 23), (4, 0), (4, 1), (4, 2), (4, 3), (4, 4), (4, 5), (4, 6), (4, 7), (4, 8), (4, 9), (4, 10), (4, 11), (4, 12), (4, 13), (4, 14), (4, 15), (4, 16), (4, 17), (4, 18), (4, 19), (4, 20), (4, 21), (4, 22), (4, 23), (5, 0), (5, 1), (5, 2), (19, 0), (19, 1), (19, 2), (19, 3), (19, 4), (19, 5), (19, 6), (19, 7), (19, 8), (19, 9), (19, 10), (19, 11), (22, 0), (22, 1)] rfl (by decide +kernel)
set_option maxRecDepth 20000 in
theorem gX2_readMoves_X2_resultHere : GoodIn wsX2_readMoves (wsV RX2 166 RX2 yX2_resultHere wsX2_resultHere) := goodIn_app (goodIn_of _ (by decide +kernel)) ggX2_readMoves_X2_resultHere
set_option maxRecDepth 20000 in
theorem ggX2_readMoves_X6_at : GoodIn wsX2_readMoves wsX6_at := goodIn_r2 cbX2_readMoves_f _ [(2, 13), (2, 9), (2, 14), (22, 0), (22, 1)] rfl (by decide +kernel)
set_option maxRecDepth 20000 in
theorem gX2_readMoves_X6_at : GoodIn wsX2_readMoves (wsV RX2 76 RX6 yX6_at wsX6_at) := goodIn_app (goodIn_of _ (by decide +kernel)) ggX2_readMoves_X6_at
set_option maxRecDepth 20000 in
theorem ggX2_readMoves_X2_refuse : GoodIn wsX2_readMoves wsX2_refuse := goodIn_r2 cbX2_readMoves_f _ [(5, 6), (5, 7), (19, 0), (19, 1), (19, 2), (19, 3), (19, 4), (19, 5), (19, 6), (19, 7), (19, 8), (19, 9), (19, 10), (19, 11)] rfl (by decide +kernel)
set_option maxRecDepth 20000 in
theorem gX2_readMoves_X2_refuse : GoodIn wsX2_readMoves (wsV RX2 99 RX2 yX2_refuse wsX2_refuse) := goodIn_app (goodIn_of _ (by decide +kernel)) ggX2_readMoves_X2_refuse
set_option maxRecDepth 20000 in
theorem ggX2_readMoves_X2_openLine : GoodIn wsX2_readMoves wsX2_openLine := goodIn_r2 cbX2_readMoves_f _ [(5, 11), (1, 0), (1, 3), (1, 1), (5, 12), (1, 2), (5, 13), (1, 6), (5, 14), (5, 15), (5, 16), (5, 17), (5, 18), (5, 19), (5, 20), (5, 21), (1, 7), (1, 8), (1, 9), (1, 10), (1, 11), (1, 12), (1, 13), (1, 14), (1, 15), (1, 16), (1, 17), (1, 18), (1, 19), (1, 20), (1, 21), (1, 22), (19, 0), (19, 1), (19, 2), (19, 3), (19, 4), (19, 5), (19, 6), (19, 7), (19, 8), (19, 9), (19, 10), (19, 11), (23, 0), (23, 1), (23, 2), (23, 3), (23, 4), (23, 5), (23, 6), (20, 0), (20, 1), (20, 2), (20, 3), (20, 4), (20, 5), (20, 6), (20, 7), (21, 0), (21, 1), (21, 2), (21, 3), (21, 4), (21, 5), (21, 6)] rfl (by decide +kernel)
set_option maxRecDepth 20000 in
theorem gX2_readMoves_X2_openLine : GoodIn wsX2_readMoves (wsV RX2 169 RX2 yX2_openLine wsX2_openLine) := goodIn_app (goodIn_of _ (by decide +kernel)) ggX2_readMoves_X2_openLine
set_option maxRecDepth 20000 in
theorem ggX2_readMoves_X1_at : GoodIn wsX2_readMoves wsX1_at := goodIn_r2 cbX2_readMoves_f _ [(5, 18), (5, 19), (5, 20), (5, 21), (20, 0), (20, 1), (20, 2), (20, 3), (20, 4), (20, 5), (20, 6), (20, 7)] rfl (by decide +kernel)
set_option maxRecDepth 20000 in
theorem gX2_readMoves_X1_at : GoodIn wsX2_readMoves (wsV RX2 86 RX1 yX1_at wsX1_at) := goodIn_app (goodIn_of _ (by decide +kernel)) ggX2_readMoves_X1_at
set_option maxRecDepth 20000 in
theorem ggX2_readMoves_X2_readRemarks : GoodIn wsX2_readMoves wsX2_readRemarks := goodIn_r2 cbX2_readMoves_f _ [(6, 1), (1, 5), (1, 6), (1, 23), (2, 0), (2, 1), (2, 2), (2, 3), (2, 4), (2, 5), (2, 6), (2, 7), (2, 8), (2, 9), (2, 10), (2, 11), (2, 12), (2, 13), (2, 14), (6, 2), (6, 3), (6, 4), (6, 5), (6, 6), (6, 7), (6, 8), (6, 9), (6, 10), (6, 11), (6, 12), (6, 13), (6, 14), (6, 15), (6, 16), (5, 3), (5, 4), (5, 5), (5, 6), (5, 7), (6, 17), (6, 18), (6, 19), (6, 20), (6, 21), (6, 22), (6, 23), (7, 0), (7, 1), (7, 2), (7, 3), (7, 4), (7, 5), (1, 14), (1, 15), (1, 16), (7, 6), (19, 0), (19, 1), (19, 2), (19, 3), (19, 4), (19, 5), (19, 6), (19, 7), (19, 8), (19, 9), (19, 10), (19, 11), (22, 0), (22, 1), (23, 0), (23, 1), (23, 2), (23, 3), (23, 4), (23, 5), (23, 6)] rfl (by decide +kernel)
set_option maxRecDepth 20000 in
theorem gX2_readMoves_X2_readRemarks : GoodIn wsX2_readMoves (wsV RX2 89 RX2 yX2_readRemarks wsX2_readRemarks) := goodIn_app (goodIn_of _ (by decide +kernel)) ggX2_readMoves_X2_readRemarks
set_option maxRecDepth 20000 in
theorem ggX2_readMoves_X2_readMove : GoodIn wsX2_readMoves wsX2_readMove := goodIn_r2 cbX2_readMoves_f _ [(7, 10), (1, 2), (1, 5), (1, 6), (7, 11), (7, 12), (1, 3), (1, 1), (5, 13), (2, 10), (2, 11), (2, 12), (2, 7), (2, 13), (2, 9), (2, 14), (7, 13), (2, 20), (7, 14), (7, 15), (7, 16), (7, 17), (2, 2), (7, 18), (7, 19), (7, 20), (7, 21), (7, 22), (2, 4), (2, 5), (2, 6), (2, 8), (1, 23), (2, 0), (2, 1), (2, 3), (5, 3), (5, 4), (5, 5), (5, 6), (5, 7), (7, 23), (8, 0), (8, 1), (8, 2), (8, 3), (8, 4), (8, 5), (8, 6), (8, 7), (8, 8), (8, 9), (8, 10), (8, 11), (8, 12), (8, 13), (8, 14), (8, 15), (8, 16), (8, 17), (8, 18), (8, 19), (8, 20), (8, 21), (8, 22), (8, 23), (9, 0), (9, 1), (9, 2), (9, 3), (9, 4), (9, 5), (7, 1), (7, 2), (7, 3), (7, 4), (7, 5), (1, 14), (1, 15), (1, 16), (9, 6), (9, 7), (9, 8), (9, 9), (9, 10), (9, 11), (9, 12), (9, 13), (9, 14), (9, 15), (9, 16), (9, 17), (3, 2), (3, 3), (3, 4), (3, 5), (3, 6), (3, 7), (3, 8), (3, 9), (3, 10), (3, 11), (3, 12), (3, 13), (9, 18), (2, 23), (3, 0), (3, 1), (3, 14), (3, 15), (3, 16), (3, 17), (3, 18), (3, 19), (3, 20), (3, 21), (3, 22), (3, 23), (4, 0), (4, 1), (4, 2), (4, 3), (4, 4), (4, 5), (4, 6), (4, 7), (4, 8), (4, 9), (4, 10), (4, 11), (4, 12), (4, 13), (4, 14), (4, 15), (4, 16), (4, 17), (4, 18), (4, 19), (4, 20), (4, 21), (4, 22), (4, 23), (5, 0), (5, 1), (5, 2), (9, 19), (9, 20), (9, 21), (9, 22), (9, 23), (10, 0), (10, 1), (10, 2), (10, 3), (10, 4), (10, 5), (10, 6), (10, 7), (10, 8), (10, 9), (6, 15), (6, 8), (6, 16), (10, 10), (6, 7), (6, 9), (10, 11), (10, 12), (10, 13), (10, 14), (10, 15), (10, 16), (10, 17), (10, 18), (10, 19), (10, 20), (10, 21), (10, 22), (10, 23), (11, 0), (11, 1), (11, 2), (11, 3), (11, 4), (11, 5), (11, 6), (11, 7), (11, 8), (11, 9), (11, 10), (11, 11), (11, 12), (11, 13), (11, 14), (11, 15), (11, 16), (11, 17), (11, 18), (11, 19), (11, 20), (11, 21), (11, 22), (11, 23), (12, 0), (12, 1), (12, 2), (12, 3), (12, 4), (12, 5), (12, 6), (12, 7), (12, 8), (12, 9), (12, 10), (12, 11), (12, 12), (12, 13), (12, 14), (12, 15), (12, 16), (12, 17), (12, 18), (12, 19), (12, 20), (12, 21), (12, 22), (12, 23), (13, 0), (13, 1), (13, 2), (1, 10), (13, 3), (1, 12), (13, 4), (13, 5), (13, 6), (13, 7), (13, 8), (13, 9), (13, 10), (13, 11), (13, 12), (13, 13), (13, 14), (13, 15), (13, 16), (13, 17), (13, 18), (13, 19), (13, 20), (13, 21), (13, 22), (13, 23), (14, 0), (1, 19), (14, 1), (14, 2), (14, 3), (14, 4), (1, 21), (14, 5), (14, 6), (14, 7), (14, 8), (14, 9), (14, 10), (14, 11), (14, 12), (14, 13), (1, 20), (14, 14), (14, 15), (14, 16), (14, 17), (14, 18), (14, 19), (14, 20), (14, 21), (14, 22), (14, 23), (15, 0), (15, 1), (15, 2), (1, 8), (1, 9), (1, 11), (1, 13), (1, 17), (1, 18), (1, 22), (15, 3), (15, 4), (15, 5), (15, 6), (15, 7), (15, 8), (15, 9), (15, 10), (15, 11), (15, 12), (15, 13), (15, 14), (15, 15), (15, 16), (15, 17), (15, 18), (15, 19), (15, 20), (15, 21), (15, 22), (15, 23), (16, 0), (16, 1), (16, 2), (16, 3), (16, 4), (16, 5), (16, 6), (16, 7), (16, 8), (16, 9), (16, 10), (16, 11), (5, 17), (16, 12), (16, 13), (16, 14), (16, 15), (16, 16), (5, 15), (5, 16), (5, 18), (5, 19), (5, 20), (5, 21), (16, 17), (16, 18), (16, 19), (16, 20), (16, 21), (16, 22), (6, 20), (16, 23), (17, 0), (17, 1), (17, 2), (17, 3), (17, 4), (17, 5), (17, 6), (17, 7), (17, 8), (17, 9), (17, 10), (17, 11), (6, 22), (17, 12), (17, 13), (17, 14), (17, 15), (17, 16), (17, 17), (17, 18), (17, 19), (17, 20), (1, 7), (17, 21), (5, 14), (17, 22), (17, 23), (18, 0), (18, 1), (18, 2), (18, 3), (18, 4), (18, 5), (18, 6), (18, 7), (18, 8), (18, 9), (18, 10), (18, 11), (18, 12), (18, 13), (5, 22), (5, 23), (6, 0), (6, 1), (6, 2), (6, 3), (6, 4), (6, 5), (6, 6), (6, 10), (6, 11), (6, 12), (6, 13), (6, 14), (6, 17), (6, 18), (6, 19), (6, 21), (6, 23), (7, 0), (7, 6), (19, 0), (19, 1), (19, 2), (19, 3), (19, 4), (19, 5), (19, 6), (19, 7), (19, 8), (19, 9), (19, 10), (19, 11), (21, 0), (21, 1), (21, 2), (21, 3), (21, 4), (21, 5), (21, 6), (22, 0), (22, 1), (24, 0), (24, 1), (24, 2), (24, 3), (24, 4), (24, 5), (24, 6), (24, 7), (24, 8), (24, 9), (24, 10), (24, 11), (25, 0), (25, 1), (23, 0), (23, 1), (23, 2), (23, 3), (23, 4), (23, 5), (23, 6), (20, 0), (20, 1), (20, 2), (20, 3), (20, 4), (20, 5), (20, 6), (20, 7)] rfl (by decide +kernel)
set_option maxRecDepth 20000 in
theorem gX2_readMoves_X2_readMove : GoodIn wsX2_readMoves (wsV RX2 172 RX2 yX2_readMove wsX2_readMove) := goodIn_app (goodIn_of _ (by decide +kernel)) ggX2_readMoves_X2_readMove
set_option maxRecDepth 20000 in
theorem ggX2_openLine_X1_at : GoodIn wsX2_openLine wsX1_at := goodIn_r2 cbX2_openLine_f _ [(1, 11), (1, 12), (1, 13), (1, 14), (5, 0), (5, 1), (5, 2), (5, 3), (5, 4), (5, 5), (5, 6), (5, 7)] rfl (by decide +kernel)
set_option maxRecDepth 20000 in
theorem gX2_openLine_X1_at : GoodIn wsX2_openLine (wsV RX2 86 RX1 yX1_at wsX1_at) := goodIn_app (goodIn_of _ (by decide +kernel)) ggX2_openLine_X1_at
set_option maxRecDepth 20000 in
theorem ggX2_openLine_X0_copyFrom : GoodIn wsX2_openLine wsX0_copyFrom := goodIn_r2 cbX2_openLine_f _ [(1, 19), (1, 20), (1, 21), (1, 22), (1, 23), (2, 0), (2, 1), (2, 2), (2, 3), (2, 4), (2, 5), (2, 6), (6, 0), (6, 1), (6, 2), (6, 3), (6, 4), (6, 5), (6, 6)] rfl (by decide +kernel)
set_option maxRecDepth 20000 in
theorem gX2_openLine_X0_copyFrom : GoodIn wsX2_openLine (wsV RX2 162 RX0 yX0_copyFrom wsX0_copyFrom) := goodIn_app (goodIn_of _ (by decide +kernel)) ggX2_openLine_X0_copyFrom
set_option maxRecDepth 20000 in
theorem ggX2_readMove_X6_at : GoodIn wsX2_readMove wsX6_at := goodIn_r2 cbX2_readMove_f _ [(1, 12), (1, 13), (1, 14), (20, 0), (20, 1)] rfl (by decide +kernel)
set_option maxRecDepth 20000 in
theorem gX2_readMove_X6_at : GoodIn wsX2_readMove (wsV RX2 76 RX6 yX6_at wsX6_at) := goodIn_app (goodIn_of _ (by decide +kernel)) ggX2_readMove_X6_at
set_option maxRecDepth 20000 in
theorem ggX2_readMove_X11_isDigit : GoodIn wsX2_readMove wsX11_isDigit := goodIn_r _ [18] rfl (by decide +kernel)
set_option maxRecDepth 20000 in
theorem gX2_readMove_X11_isDigit_n136 : GoodIn wsX2_readMove (wsX11_isDigit) := ggX2_readMove_X11_isDigit
set_option maxRecDepth 20000 in
theorem ggX2_readMove_X2_readNumber : GoodIn wsX2_readMove wsX2_readNumber := goodIn_r2 cbX2_readMove_f _ [(1, 22), (1, 2), (1, 1), (1, 23), (2, 0), (2, 1), (1, 21), (2, 2), (1, 8), (1, 9), (1, 10), (1, 11), (1, 12), (1, 13), (1, 14), (1, 15), (1, 16), (1, 17), (2, 3), (2, 4), (2, 5), (2, 6), (2, 7), (2, 8), (2, 9), (2, 10), (2, 11), (2, 12), (2, 13), (2, 14), (2, 15), (18, 0), (18, 1), (18, 2), (18, 3), (18, 4), (18, 5), (18, 6), (18, 7), (18, 8), (18, 9), (18, 10), (18, 11), (20, 0), (20, 1)] rfl (by decide +kernel)
set_option maxRecDepth 20000 in
theorem gX2_readMove_X2_readNumber : GoodIn wsX2_readMove (wsV RX2 182 RX2 yX2_readNumber wsX2_readNumber) := goodIn_app (goodIn_of _ (by decide +kernel)) ggX2_readMove_X2_readNumber
set_option maxRecDepth 20000 in
theorem ggX2_readMove_X11_isLetter : GoodIn wsX2_readMove wsX11_isLetter := goodIn_r2 cbX2_readMove_f _ [(2, 17)] rfl (by decide +kernel)
set_option maxRecDepth 20000 in
theorem gX2_readMove_X11_isLetter_n132 : GoodIn wsX2_readMove (wsX11_isLetter) := ggX2_readMove_X11_isLetter
set_option maxRecDepth 20000 in
theorem ggX2_readMove_X2_refuse : GoodIn wsX2_readMove wsX2_refuse := goodIn_r2 cbX2_readMove_f _ [(2, 14), (2, 15), (18, 0), (18, 1), (18, 2), (18, 3), (18, 4), (18, 5), (18, 6), (18, 7), (18, 8), (18, 9), (18, 10), (18, 11)] rfl (by decide +kernel)
set_option maxRecDepth 20000 in
theorem gX2_readMove_X2_refuse : GoodIn wsX2_readMove (wsV RX2 99 RX2 yX2_refuse wsX2_refuse) := goodIn_app (goodIn_of _ (by decide +kernel)) ggX2_readMove_X2_refuse
set_option maxRecDepth 20000 in
theorem ggX2_readMove_X2_skipSigns : GoodIn wsX2_readMove wsX2_skipSigns := goodIn_r2 cbX2_readMove_f _ [(2, 21), (1, 2), (1, 1), (2, 3), (2, 4), (2, 5), (1, 11), (2, 6), (1, 13), (1, 8), (1, 9), (1, 10), (1, 12), (1, 14), (2, 22), (2, 23), (1, 21), (3, 0), (2, 16), (1, 16), (2, 17), (1, 15), (1, 17), (18, 0), (18, 1), (18, 2), (18, 3), (18, 4), (18, 5), (18, 6), (18, 7), (18, 8), (18, 9), (18, 10), (18, 11), (20, 0), (20, 1)] rfl (by decide +kernel)
set_option maxRecDepth 20000 in
theorem gX2_readMove_X2_skipSigns : GoodIn wsX2_readMove (wsV RX2 185 RX2 yX2_skipSigns wsX2_skipSigns) := goodIn_app (goodIn_of _ (by decide +kernel)) ggX2_readMove_X2_skipSigns
set_option maxRecDepth 20000 in
theorem ggX2_readMove_X8_matched : GoodIn wsX2_readMove wsX8_matched := goodIn_r2 cbX2_readMove_f _ [(3, 5), (3, 6), (3, 7), (3, 8), (3, 9), (3, 10), (3, 11), (3, 12), (3, 13), (3, 4), (3, 14), (3, 15), (3, 16), (3, 17), (3, 18), (1, 11), (3, 19), (1, 13), (3, 20), (2, 4), (2, 5), (2, 6), (3, 21), (1, 9), (1, 10), (1, 12), (1, 14), (3, 22), (3, 23), (4, 0), (4, 1), (4, 2), (4, 3), (4, 4), (4, 5), (4, 6), (4, 7), (4, 8), (4, 9), (4, 10), (4, 11), (4, 12), (4, 13), (4, 14), (4, 15), (4, 16), (4, 17), (4, 18), (4, 19), (4, 20), (4, 21), (4, 22), (4, 23), (5, 0), (5, 1), (5, 2), (5, 3), (5, 4), (5, 5), (5, 6), (5, 7), (5, 8), (5, 9), (5, 10), (5, 11), (5, 12), (5, 13), (5, 14), (5, 15), (5, 16), (5, 17), (5, 18), (5, 19), (5, 20), (5, 21), (5, 22), (5, 23), (6, 0), (6, 1), (6, 2), (6, 3), (6, 4), (6, 5), (6, 6), (6, 7), (6, 8), (6, 9), (6, 10), (6, 11), (6, 12), (6, 13), (6, 14), (6, 15), (6, 16), (6, 17), (6, 18), (6, 19), (6, 20), (6, 21), (6, 22), (6, 23), (7, 0), (1, 16), (7, 1), (7, 2), (7, 3), (7, 4), (7, 5), (7, 6), (7, 7), (7, 8), (7, 9), (7, 10), (7, 11), (7, 12), (7, 13), (7, 14), (7, 15), (7, 16), (7, 17), (7, 18), (7, 19), (7, 20), (7, 21), (7, 22), (7, 23), (8, 0), (8, 1), (8, 2), (8, 3), (8, 4), (8, 5), (8, 6), (8, 7), (8, 8), (8, 9), (8, 10), (8, 11), (8, 12), (8, 13), (8, 14), (8, 15), (8, 16), (8, 17), (8, 18), (8, 19), (8, 20), (8, 21), (8, 22), (8, 23), (9, 0), (9, 1), (9, 2), (9, 3), (9, 4), (9, 5), (9, 6), (9, 7), (9, 8), (9, 9), (9, 10), (9, 11), (9, 12), (9, 13), (9, 14), (9, 15), (9, 16), (9, 17), (9, 18), (9, 19), (9, 20), (9, 21), (9, 22), (9, 23), (10, 0), (10, 1), (10, 2), (10, 3), (10, 4), (10, 5), (10, 6), (10, 7), (10, 8), (10, 9), (10, 10), (10, 11), (10, 12), (10, 13), (10, 14), (10, 15), (10, 16), (10, 17), (10, 18), (10, 19), (10, 20), (10, 21), (10, 22), (10, 23), (11, 0), (11, 1), (11, 2), (11, 3), (11, 4), (11, 5), (11, 6), (11, 7), (11, 8), (11, 9), (11, 10), (11, 11), (11, 12), (11, 13), (11, 14), (11, 15), (11, 16), (11, 17), (11, 18), (11, 19), (11, 20), (11, 21), (11, 22), (11, 23), (12, 0), (12, 1), (12, 2), (12, 3), (12, 4), (12, 5), (12, 6), (12, 7), (12, 8), (12, 9), (12, 10), (12, 11), (12, 12), (12, 13), (12, 14), (12, 15), (12, 16), (12, 17), (12, 18), (12, 19), (12, 20), (12, 21), (12, 22), (12, 23), (13, 0), (13, 1), (13, 2), (13, 3), (13, 4), (13, 5), (13, 6), (13, 7), (13, 8), (13, 9), (13, 10), (13, 11), (13, 12), (13, 13), (13, 14), (13, 15), (13, 16), (13, 17), (13, 18), (13, 19), (13, 20), (13, 21), (13, 22), (13, 23), (14, 0), (14, 1), (14, 2), (14, 3), (14, 4), (14, 5), (14, 6), (21, 0), (21, 1), (21, 2), (21, 3), (21, 4), (21, 5), (21, 6), (21, 7), (21, 8), (21, 9), (21, 10), (21, 11), (20, 0), (20, 1), (19, 0), (19, 1), (19, 2), (19, 3), (19, 4), (19, 5), (19, 6), (22, 0), (22, 1)] rfl (by decide +kernel)
set_option maxRecDepth 20000 in
theorem gX2_readMove_X8_matched : GoodIn wsX2_readMove (wsV RX2 188 RX8 yX8_matched wsX8_matched) := goodIn_app (goodIn_of _ (by decide +kernel)) ggX2_readMove_X8_matched
set_option maxRecDepth 20000 in
theorem ggX2_readMove_X1_childWith : GoodIn wsX2_readMove wsX1_childWith := goodIn_r2 cbX2_readMove_f _ [(14, 11), (14, 12), (14, 13), (14, 14), (14, 15), (14, 16), (14, 17), (14, 10), (14, 18), (14, 19), (14, 20), (14, 21), (23, 0), (23, 1), (23, 2), (23, 3), (23, 4), (23, 5), (23, 6), (24, 0), (24, 1), (24, 2), (24, 3), (24, 4), (24, 5), (24, 6), (24, 7)] rfl (by decide +kernel)
set_option maxRecDepth 20000 in
theorem gX2_readMove_X1_childWith : GoodIn wsX2_readMove (wsV RX2 192 RX1 yX1_childWith wsX1_childWith) := goodIn_app (goodIn_of _ (by decide +kernel)) ggX2_readMove_X1_childWith
set_option maxRecDepth 20000 in
theorem ggX2_readMove_X1_grow : GoodIn wsX2_readMove wsX1_grow := goodIn_r2 cbX2_readMove_f _ [(15, 1), (14, 19), (14, 12), (14, 14), (14, 20), (15, 2), (15, 3), (15, 4), (14, 15), (14, 16), (14, 17), (14, 10), (14, 18), (14, 21), (15, 5), (15, 6), (15, 7), (15, 8), (15, 9), (15, 10), (15, 11), (15, 12), (15, 13), (15, 14), (15, 15), (15, 16), (15, 17), (1, 11), (15, 18), (15, 19), (15, 20), (15, 21), (15, 22), (1, 14), (1, 13), (15, 23), (16, 0), (16, 1), (16, 2), (16, 3), (3, 17), (3, 18), (3, 19), (24, 0), (24, 1), (24, 2), (24, 3), (24, 4), (24, 5), (24, 6), (24, 7), (23, 0), (23, 1), (23, 2), (23, 3), (23, 4), (23, 5), (23, 6), (20, 0), (20, 1)] rfl (by decide +kernel)
set_option maxRecDepth 20000 in
theorem gX2_readMove_X1_grow : GoodIn wsX2_readMove (wsV RX2 195 RX1 yX1_grow wsX1_grow) := goodIn_app (goodIn_of _ (by decide +kernel)) ggX2_readMove_X1_grow
set_option maxRecDepth 20000 in
theorem ggX2_readMove_X0_copyFrom : GoodIn wsX2_readMove wsX0_copyFrom := goodIn_r2 cbX2_readMove_f _ [(12, 20), (10, 15), (12, 21), (4, 4), (4, 5), (4, 6), (12, 22), (12, 23), (11, 13), (12, 4), (11, 18), (13, 0), (19, 0), (19, 1), (19, 2), (19, 3), (19, 4), (19, 5), (19, 6)] rfl (by decide +kernel)
set_option maxRecDepth 20000 in
theorem gX2_readMove_X0_copyFrom : GoodIn wsX2_readMove (wsV RX2 162 RX0 yX0_copyFrom wsX0_copyFrom) := goodIn_app (goodIn_of _ (by decide +kernel)) ggX2_readMove_X0_copyFrom
set_option maxRecDepth 20000 in
theorem ggX2_readMove_X0_play : GoodIn wsX2_readMove wsX0_play := goodIn_r2 cbX2_readMove_f _ [(13, 4), (11, 18), (10, 15), (11, 13), (12, 4), (13, 0), (11, 1), (11, 2), (11, 3), (10, 13), (11, 4), (11, 23), (10, 11), (10, 12), (10, 14), (13, 5), (13, 6), (13, 7), (13, 8), (12, 22), (12, 23), (13, 9), (13, 10), (13, 11), (13, 12), (13, 13), (13, 14), (13, 15), (19, 0), (19, 1), (19, 2), (19, 3), (19, 4), (19, 5), (19, 6)] rfl (by decide +kernel)
set_option maxRecDepth 20000 in
theorem gX2_readMove_X0_play : GoodIn wsX2_readMove (wsV RX2 198 RX0 yX0_play wsX0_play) := goodIn_app (goodIn_of _ (by decide +kernel)) ggX2_readMove_X0_play
set_option maxRecDepth 20000 in
theorem ggX2_readMove_X1_at : GoodIn wsX2_readMove wsX1_at := goodIn_r2 cbX2_readMove_f _ [(14, 18), (14, 19), (14, 20), (14, 21), (24, 0), (24, 1), (24, 2), (24, 3), (24, 4), (24, 5), (24, 6), (24, 7)] rfl (by decide +kernel)
set_option maxRecDepth 20000 in
theorem gX2_readMove_X1_at : GoodIn wsX2_readMove (wsV RX2 86 RX1 yX1_at wsX1_at) := goodIn_app (goodIn_of _ (by decide +kernel)) ggX2_readMove_X1_at
set_option maxRecDepth 20000 in
theorem ggX2_readMove_X2_readMarks : GoodIn wsX2_readMove wsX2_readMarks := goodIn_r2 cbX2_readMove_f _ [(16, 10), (1, 1), (1, 2), (2, 7), (2, 8), (2, 9), (1, 21), (2, 10), (2, 3), (2, 4), (2, 5), (1, 11), (2, 6), (1, 13), (1, 8), (1, 9), (1, 10), (1, 12), (1, 14), (16, 11), (16, 12), (16, 13), (16, 14), (16, 15), (16, 16), (15, 4), (16, 17), (15, 15), (15, 14), (16, 18), (16, 19), (16, 20), (16, 21), (16, 22), (1, 23), (2, 0), (2, 1), (2, 2), (1, 15), (1, 16), (1, 17), (2, 11), (2, 12), (2, 13), (2, 14), (2, 15), (18, 0), (18, 1), (18, 2), (18, 3), (18, 4), (18, 5), (18, 6), (18, 7), (18, 8), (18, 9), (18, 10), (18, 11), (20, 0), (20, 1), (23, 0), (23, 1), (23, 2), (23, 3), (23, 4), (23, 5), (23, 6)] rfl (by decide +kernel)
set_option maxRecDepth 20000 in
theorem gX2_readMove_X2_readMarks : GoodIn wsX2_readMove (wsV RX2 201 RX2 yX2_readMarks wsX2_readMarks) := goodIn_app (goodIn_of _ (by decide +kernel)) ggX2_readMove_X2_readMarks
set_option maxRecDepth 20000 in
theorem ggX2_readMove_X2_readRemarks : GoodIn wsX2_readMove wsX2_readRemarks := goodIn_r2 cbX2_readMove_f _ [(17, 2), (1, 1), (1, 2), (2, 7), (2, 8), (2, 9), (1, 21), (2, 10), (2, 3), (2, 4), (2, 5), (1, 11), (2, 6), (1, 13), (1, 8), (1, 9), (1, 10), (1, 12), (1, 14), (17, 3), (17, 4), (17, 5), (17, 6), (17, 7), (7, 19), (7, 16), (7, 20), (17, 8), (17, 9), (17, 10), (17, 11), (17, 12), (7, 15), (7, 17), (2, 11), (2, 12), (2, 13), (2, 14), (2, 15), (17, 13), (17, 14), (17, 15), (15, 4), (17, 16), (15, 18), (17, 17), (17, 18), (3, 23), (4, 0), (4, 1), (4, 2), (4, 3), (4, 4), (4, 5), (4, 6), (17, 19), (18, 0), (18, 1), (18, 2), (18, 3), (18, 4), (18, 5), (18, 6), (18, 7), (18, 8), (18, 9), (18, 10), (18, 11), (20, 0), (20, 1), (23, 0), (23, 1), (23, 2), (23, 3), (23, 4), (23, 5), (23, 6)] rfl (by decide +kernel)
set_option maxRecDepth 20000 in
theorem gX2_readMove_X2_readRemarks : GoodIn wsX2_readMove (wsV RX2 89 RX2 yX2_readRemarks wsX2_readRemarks) := goodIn_app (goodIn_of _ (by decide +kernel)) ggX2_readMove_X2_readRemarks
set_option maxRecDepth 20000 in
theorem ggX2_readNumber_X2_readDigits : GoodIn wsX2_readNumber wsX2_readDigits := goodIn_r2 cbX2_readNumber_f _ [(1, 6), (1, 0), (1, 1), (1, 7), (1, 8), (1, 9), (1, 10), (1, 11), (1, 12), (1, 13), (1, 14), (1, 15), (1, 16), (3, 0), (3, 1), (3, 2), (3, 3), (3, 4), (3, 5), (3, 6), (3, 7), (3, 8), (3, 9), (3, 10), (3, 11), (4, 0), (4, 1)] rfl (by decide +kernel)
set_option maxRecDepth 20000 in
theorem gX2_readNumber_X2_readDigits : GoodIn wsX2_readNumber (wsV RX2 204 RX2 yX2_readDigits wsX2_readDigits) := goodIn_app (goodIn_of _ (by decide +kernel)) ggX2_readNumber_X2_readDigits
set_option maxRecDepth 20000 in
theorem ggX2_readNumber_X6_size : GoodIn wsX2_readNumber wsX6_size := goodIn_r2 cbX2_readNumber_f _ [(1, 20), (1, 12), (4, 0), (4, 1)] rfl (by decide +kernel)
set_option maxRecDepth 20000 in
theorem gX2_readNumber_X6_size : GoodIn wsX2_readNumber (wsV RX2 72 RX6 yX6_size wsX6_size) := goodIn_app (goodIn_of _ (by decide +kernel)) ggX2_readNumber_X6_size
set_option maxRecDepth 20000 in
theorem ggX2_readNumber_X6_at : GoodIn wsX2_readNumber wsX6_at := goodIn_r2 cbX2_readNumber_f _ [(1, 11), (1, 12), (1, 13), (4, 0), (4, 1)] rfl (by decide +kernel)
set_option maxRecDepth 20000 in
theorem gX2_readNumber_X6_at : GoodIn wsX2_readNumber (wsV RX2 76 RX6 yX6_at wsX6_at) := goodIn_app (goodIn_of _ (by decide +kernel)) ggX2_readNumber_X6_at
set_option maxRecDepth 20000 in
theorem ggX2_readNumber_X2_skipBlanks : GoodIn wsX2_readNumber wsX2_skipBlanks := goodIn_r2 cbX2_readNumber_f _ [(2, 0), (1, 0), (1, 1), (1, 17), (1, 18), (1, 19), (1, 10), (1, 20), (1, 12), (1, 7), (1, 8), (1, 9), (1, 11), (1, 13), (3, 0), (3, 1), (3, 2), (3, 3), (3, 4), (3, 5), (3, 6), (3, 7), (3, 8), (3, 9), (3, 10), (3, 11), (4, 0), (4, 1)] rfl (by decide +kernel)
set_option maxRecDepth 20000 in
theorem gX2_readNumber_X2_skipBlanks : GoodIn wsX2_readNumber (wsV RX2 79 RX2 yX2_skipBlanks wsX2_skipBlanks) := goodIn_app (goodIn_of _ (by decide +kernel)) ggX2_readNumber_X2_skipBlanks
set_option maxRecDepth 20000 in
theorem ggX2_readNumber_X2_refuse : GoodIn wsX2_readNumber wsX2_refuse := goodIn_r2 cbX2_readNumber_f _ [(2, 4), (2, 5), (3, 0), (3, 1), (3, 2), (3, 3), (3, 4), (3, 5), (3, 6), (3, 7), (3, 8), (3, 9), (3, 10), (3, 11)] rfl (by decide +kernel)
set_option maxRecDepth 20000 in
theorem gX2_readNumber_X2_refuse : GoodIn wsX2_readNumber (wsV RX2 99 RX2 yX2_refuse wsX2_refuse) := goodIn_app (goodIn_of _ (by decide +kernel)) ggX2_readNumber_X2_refuse
set_option maxRecDepth 20000 in
theorem ggX2_readDigits_X6_at : GoodIn wsX2_readDigits wsX6_at := goodIn_r _ [7, 8, 9, 25, 26] rfl (by decide +kernel)
set_option maxRecDepth 20000 in
theorem gX2_readDigits_X6_at : GoodIn wsX2_readDigits (wsV RX2 76 RX6 yX6_at wsX6_at) := goodIn_app (goodIn_of _ (by decide +kernel)) ggX2_readDigits_X6_at
set_option maxRecDepth 20000 in
theorem ggX2_readDigits_X11_isDigit : GoodIn wsX2_readDigits wsX11_isDigit := goodIn_r _ [12] rfl (by decide +kernel)
set_option maxRecDepth 20000 in
theorem gX2_readDigits_X11_isDigit_n136 : GoodIn wsX2_readDigits (wsX11_isDigit) := ggX2_readDigits_X11_isDigit
set_option maxRecDepth 20000 in
theorem ggX2_skipSigns_X6_size : GoodIn wsX2_skipSigns wsX6_size := goodIn_r _ [7, 8, 35, 36] rfl (by decide +kernel)
set_option maxRecDepth 20000 in
theorem gX2_skipSigns_X6_size : GoodIn wsX2_skipSigns (wsV RX2 72 RX6 yX6_size wsX6_size) := goodIn_app (goodIn_of _ (by decide +kernel)) ggX2_skipSigns_X6_size
set_option maxRecDepth 20000 in
theorem ggX2_skipSigns_X6_at : GoodIn wsX2_skipSigns wsX6_at := goodIn_r _ [12, 8, 13, 35, 36] rfl (by decide +kernel)
set_option maxRecDepth 20000 in
theorem gX2_skipSigns_X6_at : GoodIn wsX2_skipSigns (wsV RX2 76 RX6 yX6_at wsX6_at) := goodIn_app (goodIn_of _ (by decide +kernel)) ggX2_skipSigns_X6_at
set_option maxRecDepth 20000 in
theorem ggX2_skipSigns_X2_isSign : GoodIn wsX2_skipSigns wsX2_isSign := goodIn_r _ [17, 18, 19, 20, 21, 22] rfl (by decide +kernel)
set_option maxRecDepth 20000 in
theorem gX2_skipSigns_X2_isSign : GoodIn wsX2_skipSigns (va_wsS RX2 208 yX2_isSign wsX2_isSign) := goodIn_app (goodIn_of _ (by decide +kernel)) ggX2_skipSigns_X2_isSign
set_option maxRecDepth 20000 in
theorem ggX2_isSign_X11_isLetter : GoodIn wsX2_isSign wsX11_isLetter := goodIn_r _ [3] rfl (by decide +kernel)
set_option maxRecDepth 20000 in
theorem gX2_isSign_X11_isLetter_n132 : GoodIn wsX2_isSign (wsX11_isLetter) := ggX2_isSign_X11_isLetter
set_option maxRecDepth 20000 in
theorem ggX2_isSign_X11_isDigit : GoodIn wsX2_isSign wsX11_isDigit := goodIn_r _ [5] rfl (by decide +kernel)
set_option maxRecDepth 20000 in
theorem gX2_isSign_X11_isDigit_n136 : GoodIn wsX2_isSign (wsX11_isDigit) := ggX2_isSign_X11_isDigit
set_option maxRecDepth 20000 in
theorem ggX2_readMarks_X2_skipBlanks : GoodIn wsX2_readMarks wsX2_skipBlanks := goodIn_r2 cbX2_readMarks_f _ [(1, 6), (1, 1), (1, 0), (1, 7), (1, 8), (1, 9), (1, 10), (1, 11), (1, 12), (1, 13), (1, 14), (1, 15), (1, 16), (1, 17), (3, 0), (3, 1), (3, 2), (3, 3), (3, 4), (3, 5), (3, 6), (3, 7), (3, 8), (3, 9), (3, 10), (3, 11), (4, 0), (4, 1)] rfl (by decide +kernel)
set_option maxRecDepth 20000 in
theorem gX2_readMarks_X2_skipBlanks : GoodIn wsX2_readMarks (wsV RX2 79 RX2 yX2_skipBlanks wsX2_skipBlanks) := goodIn_app (goodIn_of _ (by decide +kernel)) ggX2_readMarks_X2_skipBlanks
set_option maxRecDepth 20000 in
theorem ggX2_readMarks_X6_at : GoodIn wsX2_readMarks wsX6_at := goodIn_r2 cbX2_readMarks_f _ [(1, 16), (1, 12), (1, 17), (4, 0), (4, 1)] rfl (by decide +kernel)
set_option maxRecDepth 20000 in
theorem gX2_readMarks_X6_at : GoodIn wsX2_readMarks (wsV RX2 76 RX6 yX6_at wsX6_at) := goodIn_app (goodIn_of _ (by decide +kernel)) ggX2_readMarks_X6_at
set_option maxRecDepth 20000 in
theorem ggX2_readMarks_X2_shortMark : GoodIn wsX2_readMarks wsX2_shortMark := goodIn_r _ [21] rfl (by decide +kernel)
set_option maxRecDepth 20000 in
theorem gX2_readMarks_X2_shortMark : GoodIn wsX2_readMarks (va_wsS RX2 211 yX2_shortMark wsX2_shortMark) := goodIn_app (goodIn_of _ (by decide +kernel)) ggX2_readMarks_X2_shortMark
set_option maxRecDepth 20000 in
theorem ggX2_readMarks_X4_putMark : GoodIn wsX2_readMarks wsX4_putMark := goodIn_r2 cbX2_readMarks_f _ [(2, 1), (2, 2), (2, 3), (5, 0), (5, 1), (5, 2), (5, 3), (5, 4), (5, 5), (5, 6)] rfl (by decide +kernel)
set_option maxRecDepth 20000 in
theorem gX2_readMarks_X4_putMark : GoodIn wsX2_readMarks (wsV RX2 215 RX4 yX4_putMark wsX4_putMark) := goodIn_app (goodIn_of _ (by decide +kernel)) ggX2_readMarks_X4_putMark
set_option maxRecDepth 20000 in
theorem ggX2_readMarks_X2_readMark : GoodIn wsX2_readMarks wsX2_readMark := goodIn_r2 cbX2_readMarks_f _ [(2, 7), (1, 1), (2, 8), (1, 0), (2, 9), (2, 10), (2, 11), (1, 5), (2, 12), (1, 13), (1, 14), (1, 15), (1, 10), (1, 16), (1, 12), (1, 17), (2, 13), (2, 14), (2, 15), (2, 16), (2, 17), (2, 18), (2, 19), (2, 20), (1, 21), (1, 22), (1, 23), (2, 0), (2, 1), (2, 2), (2, 3), (3, 0), (3, 1), (3, 2), (3, 3), (3, 4), (3, 5), (3, 6), (3, 7), (3, 8), (3, 9), (3, 10), (3, 11), (5, 0), (5, 1), (5, 2), (5, 3), (5, 4), (5, 5), (5, 6), (4, 0), (4, 1)] rfl (by decide +kernel)
set_option maxRecDepth 20000 in
theorem gX2_readMarks_X2_readMark : GoodIn wsX2_readMarks (wsV RX2 218 RX2 yX2_readMark wsX2_readMark) := goodIn_app (goodIn_of _ (by decide +kernel)) ggX2_readMarks_X2_readMark
set_option maxRecDepth 20000 in
theorem ggX2_readMark_X2_readDigits : GoodIn wsX2_readMark wsX2_readDigits := goodIn_r2 cbX2_readMark_f _ [(1, 7), (1, 0), (1, 2), (1, 8), (1, 9), (1, 10), (1, 11), (1, 12), (1, 13), (1, 14), (1, 15), (1, 16), (1, 17), (3, 0), (3, 1), (3, 2), (3, 3), (3, 4), (3, 5), (3, 6), (3, 7), (3, 8), (3, 9), (3, 10), (3, 11), (5, 0), (5, 1)] rfl (by decide +kernel)
set_option maxRecDepth 20000 in
theorem gX2_readMark_X2_readDigits : GoodIn wsX2_readMark (wsV RX2 204 RX2 yX2_readDigits wsX2_readDigits) := goodIn_app (goodIn_of _ (by decide +kernel)) ggX2_readMark_X2_readDigits
set_option maxRecDepth 20000 in
theorem ggX2_readMark_X2_refuse : GoodIn wsX2_readMark wsX2_refuse := goodIn_r2 cbX2_readMark_f _ [(1, 21), (1, 22), (3, 0), (3, 1), (3, 2), (3, 3), (3, 4), (3, 5), (3, 6), (3, 7), (3, 8), (3, 9), (3, 10), (3, 11)] rfl (by decide +kernel)
set_option maxRecDepth 20000 in
theorem gX2_readMark_X2_refuse : GoodIn wsX2_readMark (wsV RX2 99 RX2 yX2_refuse wsX2_refuse) := goodIn_app (goodIn_of _ (by decide +kernel)) ggX2_readMark_X2_refuse
set_option maxRecDepth 20000 in
theorem ggX2_readMark_X6_at : GoodIn wsX2_readMark wsX6_at := goodIn_r2 cbX2_readMark_f _ [(1, 12), (1, 13), (1, 14), (5, 0), (5, 1)] rfl (by decide +kernel)
set_option maxRecDepth 20000 in
theorem gX2_readMark_X6_at : GoodIn wsX2_readMark (wsV RX2 76 RX6 yX6_at wsX6_at) := goodIn_app (goodIn_of _ (by decide +kernel)) ggX2_readMark_X6_at
set_option maxRecDepth 20000 in
theorem ggX2_readMark_X11_isDigit : GoodIn wsX2_readMark wsX11_isDigit := goodIn_r _ [18] rfl (by decide +kernel)
set_option maxRecDepth 20000 in
theorem gX2_readMark_X11_isDigit_n136 : GoodIn wsX2_readMark (wsX11_isDigit) := ggX2_readMark_X11_isDigit
set_option maxRecDepth 20000 in
theorem ggX2_readMark_X4_putMark : GoodIn wsX2_readMark wsX4_putMark := goodIn_r2 cbX2_readMark_f _ [(2, 3), (2, 4), (2, 5), (4, 0), (4, 1), (4, 2), (4, 3), (4, 4), (4, 5), (4, 6)] rfl (by decide +kernel)
set_option maxRecDepth 20000 in
theorem gX2_readMark_X4_putMark : GoodIn wsX2_readMark (wsV RX2 215 RX4 yX4_putMark wsX4_putMark) := goodIn_app (goodIn_of _ (by decide +kernel)) ggX2_readMark_X4_putMark
set_option maxRecDepth 20000 in
theorem ggX2_resultHere_X11_resultSign : GoodIn wsX2_resultHere wsX11_resultSign := goodIn_r _ [5] rfl (by decide +kernel)
set_option maxRecDepth 20000 in
theorem gX2_resultHere_X11_resultSign_n224 : GoodIn wsX2_resultHere (wsX11_resultSign) := ggX2_resultHere_X11_resultSign
set_option maxRecDepth 20000 in
theorem ggX2_resultHere_X6_holds : GoodIn wsX2_resultHere wsX6_holds := goodIn_r2 cbX2_resultHere_f _ [(1, 9), (1, 10), (1, 11), (1, 12), (1, 13), (1, 14), (1, 15), (1, 16), (1, 17), (1, 18), (1, 19), (1, 20), (1, 21), (1, 22), (1, 23), (2, 0), (2, 1), (2, 2), (2, 3), (2, 4), (2, 5), (2, 6), (2, 7), (2, 8), (2, 9), (2, 10), (2, 11), (2, 12), (2, 13), (2, 14), (2, 15), (2, 16), (2, 17), (2, 18), (2, 19), (2, 20), (2, 21), (2, 22), (2, 23), (3, 0), (3, 1), (3, 2), (3, 3), (3, 4), (3, 5), (3, 6), (3, 7), (3, 8), (3, 9), (3, 10), (3, 11), (3, 12), (5, 0), (5, 1)] rfl (by decide +kernel)
set_option maxRecDepth 20000 in
theorem gX2_resultHere_X6_holds : GoodIn wsX2_resultHere (wsV RX2 228 RX6 yX6_holds wsX6_holds) := goodIn_app (goodIn_of _ (by decide +kernel)) ggX2_resultHere_X6_holds
set_option maxRecDepth 20000 in
theorem ggX2_readEnd_X2_resultHere : GoodIn wsX2_readEnd wsX2_resultHere := goodIn_r2 cbX2_readEnd_f _ [(1, 8), (1, 3), (1, 1), (1, 9), (1, 10), (1, 11), (1, 12), (1, 13), (1, 14), (1, 15), (1, 16), (1, 17), (1, 18), (1, 19), (1, 20), (1, 21), (1, 22), (1, 23), (2, 0), (2, 1), (2, 2), (2, 3), (2, 4), (2, 5), (2, 6), (2, 7), (2, 8), (2, 9), (2, 10), (2, 11), (2, 12), (2, 13), (2, 14), (2, 15), (2, 16), (2, 17), (2, 18), (2, 19), (2, 20), (2, 21), (2, 22), (2, 23), (3, 0), (3, 1), (3, 2), (3, 3), (3, 4), (3, 5), (3, 6), (3, 7), (3, 8), (3, 9), (3, 10), (3, 11), (3, 12), (3, 13), (3, 14), (3, 15), (3, 16), (3, 17), (3, 18), (3, 19), (6, 0), (6, 1), (6, 2), (6, 3), (6, 4), (6, 5), (6, 6), (6, 7), (6, 8), (6, 9), (6, 10), (6, 11), (8, 0), (8, 1)] rfl (by decide +kernel)
set_option maxRecDepth 20000 in
theorem gX2_readEnd_X2_resultHere : GoodIn wsX2_readEnd (wsV RX2 166 RX2 yX2_resultHere wsX2_resultHere) := goodIn_app (goodIn_of _ (by decide +kernel)) ggX2_readEnd_X2_resultHere
set_option maxRecDepth 20000 in
theorem ggX2_readEnd_X1_agreesWith : GoodIn wsX2_readEnd wsX1_agreesWith := goodIn_r2 cbX2_readEnd_f _ [(4, 0), (4, 1), (4, 2), (4, 3), (4, 4), (4, 5), (4, 6), (3, 23), (4, 7), (4, 8), (4, 9), (4, 10), (4, 11), (4, 12), (4, 13), (4, 14), (4, 15), (4, 16), (4, 17), (4, 18), (1, 15), (4, 19), (4, 20), (4, 21), (4, 22), (4, 23), (5, 0), (1, 18), (1, 17), (5, 1), (5, 2), (5, 3), (5, 4), (1, 19), (1, 20), (1, 21), (1, 22), (1, 23), (2, 0), (2, 1), (2, 2), (2, 3), (2, 4), (2, 5), (2, 6), (5, 5), (1, 13), (1, 14), (1, 16), (2, 7), (2, 8), (2, 9), (2, 10), (2, 11), (2, 12), (2, 13), (2, 14), (2, 15), (2, 16), (2, 17), (2, 18), (2, 19), (2, 20), (2, 21), (2, 22), (2, 23), (3, 0), (3, 1), (3, 2), (3, 3), (3, 4), (3, 5), (3, 6), (3, 7), (3, 8), (3, 9), (3, 10), (3, 11), (3, 12), (3, 13), (3, 14), (3, 15), (3, 16), (3, 17), (3, 18), (3, 19), (1, 9), (1, 10), (1, 11), (7, 0), (7, 1), (7, 2), (7, 3), (7, 4), (7, 5), (7, 6), (7, 7), (9, 0), (9, 1), (8, 0), (8, 1)] rfl (by decide +kernel)
set_option maxRecDepth 20000 in
theorem gX2_readEnd_X1_agreesWith : GoodIn wsX2_readEnd (wsV RX2 232 RX1 yX1_agreesWith wsX1_agreesWith) := goodIn_app (goodIn_of _ (by decide +kernel)) ggX2_readEnd_X1_agreesWith
set_option maxRecDepth 20000 in
theorem ggX2_readEnd_X2_refuse : GoodIn wsX2_readEnd wsX2_refuse := goodIn_r2 cbX2_readEnd_f _ [(5, 9), (5, 10), (6, 0), (6, 1), (6, 2), (6, 3), (6, 4), (6, 5), (6, 6), (6, 7), (6, 8), (6, 9), (6, 10), (6, 11)] rfl (by decide +kernel)
set_option maxRecDepth 20000 in
theorem gX2_readEnd_X2_refuse : GoodIn wsX2_readEnd (wsV RX2 99 RX2 yX2_refuse wsX2_refuse) := goodIn_app (goodIn_of _ (by decide +kernel)) ggX2_readEnd_X2_refuse
set_option maxRecDepth 20000 in
theorem ggX2_readEnd_X11_resultSign : GoodIn wsX2_readEnd wsX11_resultSign := goodIn_r _ [12] rfl (by decide +kernel)
set_option maxRecDepth 20000 in
theorem gX2_readEnd_X11_resultSign_n224 : GoodIn wsX2_readEnd (wsX11_resultSign) := ggX2_readEnd_X11_resultSign
set_option maxRecDepth 20000 in
theorem ggX2_readEnd_J0_length_8abf5 : GoodIn wsX2_readEnd wsJ0_length_8abf5 := goodIn_r _ [24, 25, 26, 27, 28, 23, 29, 30, 31] rfl (by decide +kernel)
set_option maxRecDepth 20000 in
theorem gX2_readEnd_J0_length_8abf5 : GoodIn wsX2_readEnd (wsV RX2 238 RJ0 yJ0_length_8abf5 wsJ0_length_8abf5) := goodIn_app (goodIn_of _ (by decide +kernel)) ggX2_readEnd_J0_length_8abf5
set_option maxRecDepth 20000 in
theorem ggX2_readEnd_X2_skipBlanks : GoodIn wsX2_readEnd wsX2_skipBlanks := goodIn_r2 cbX2_readEnd_f _ [(5, 15), (1, 1), (1, 3), (5, 16), (5, 17), (5, 18), (1, 15), (5, 19), (1, 17), (5, 20), (5, 21), (5, 22), (5, 23), (1, 18), (6, 0), (6, 1), (6, 2), (6, 3), (6, 4), (6, 5), (6, 6), (6, 7), (6, 8), (6, 9), (6, 10), (6, 11), (8, 0), (8, 1)] rfl (by decide +kernel)
set_option maxRecDepth 20000 in
theorem gX2_readEnd_X2_skipBlanks : GoodIn wsX2_readEnd (wsV RX2 79 RX2 yX2_skipBlanks wsX2_skipBlanks) := goodIn_app (goodIn_of _ (by decide +kernel)) ggX2_readEnd_X2_skipBlanks
set_option maxRecDepth 20000 in
theorem ggX2_readEnd_X6_size : GoodIn wsX2_readEnd wsX6_size := goodIn_r2 cbX2_readEnd_f _ [(5, 19), (1, 17), (8, 0), (8, 1)] rfl (by decide +kernel)
set_option maxRecDepth 20000 in
theorem gX2_readEnd_X6_size : GoodIn wsX2_readEnd (wsV RX2 72 RX6 yX6_size wsX6_size) := goodIn_app (goodIn_of _ (by decide +kernel)) ggX2_readEnd_X6_size
