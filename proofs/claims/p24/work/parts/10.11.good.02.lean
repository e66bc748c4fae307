section
set_option maxRecDepth 20000 in
theorem ggX2_init_X8_init : GoodIn wsX2_init wsX8_init := goodIn_r2 cbX2_init_f _ [(2, 8), (2, 9), (1, 1), (1, 2), (2, 10), (2, 11), (2, 12), (2, 13), (2, 14), (1, 12), (1, 13), (2, 15), (1, 23), (2, 16), (2, 17), (2, 18), (2, 19), (2, 20), (2, 5), (2, 6), (2, 21), (2, 22), (2, 23), (3, 0), (3, 1), (3, 2), (3, 3), (3, 4), (3, 5), (3, 6), (3, 7), (3, 8), (3, 9), (3, 10), (3, 11), (3, 12), (3, 13), (3, 14), (12, 0), (12, 1), (6, 0), (6, 1), (6, 2), (6, 3), (6, 4), (6, 5), (6, 6), (6, 7), (6, 8), (6, 9), (6, 10), (6, 11), (9, 0), (9, 1), (11, 0), (11, 1), (11, 2), (11, 3), (11, 4), (11, 5), (11, 6)] rfl (by decide +kernel)
set_option maxRecDepth 20000 in
theorem gX2_init_X8_init_n11 : GoodIn wsX2_init (wsX8_init) := ggX2_init_X8_init
set_option maxRecDepth 20000 in
theorem ggX2_init_X5_init : GoodIn wsX2_init wsX5_init := goodIn_r2 cbX2_init_f _ [(3, 16), (3, 17), (1, 1), (1, 2), (3, 18), (1, 12), (1, 13), (3, 19), (3, 20), (3, 9), (3, 10), (3, 11), (3, 12), (3, 13), (3, 14), (9, 0), (9, 1), (8, 0), (8, 1)] rfl (by decide +kernel)
set_option maxRecDepth 20000 in
theorem gX2_init_X5_init_n20 : GoodIn wsX2_init (wsX5_init) := ggX2_init_X5_init
set_option maxRecDepth 20000 in
theorem ggX2_init_X6_init : GoodIn wsX2_init wsX6_init := goodIn_r2 cbX2_init_f _ [(3, 10), (3, 11), (1, 1), (1, 2), (3, 12), (3, 13), (3, 14), (9, 0), (9, 1)] rfl (by decide +kernel)
set_option maxRecDepth 20000 in
theorem gX2_init_X6_init_n27 : GoodIn wsX2_init (wsX6_init) := ggX2_init_X6_init
set_option maxRecDepth 20000 in
theorem ggX2_init_X1_init : GoodIn wsX2_init wsX1_init := goodIn_r2 cbX2_init_f _ [(3, 23), (4, 0), (1, 1), (1, 2), (4, 1), (2, 5), (2, 6), (4, 2), (4, 3), (4, 4), (4, 5), (4, 6), (4, 7), (4, 8), (4, 9), (4, 10), (4, 11), (4, 12), (1, 23), (4, 13), (2, 23), (3, 0), (3, 1), (3, 2), (3, 3), (3, 4), (3, 5), (3, 6), (3, 7), (3, 8), (4, 14), (4, 15), (4, 16), (4, 17), (4, 18), (4, 19), (4, 20), (4, 21), (4, 22), (4, 23), (1, 12), (1, 13), (5, 0), (3, 9), (3, 10), (3, 11), (3, 12), (3, 13), (3, 14), (5, 1), (5, 2), (5, 3), (5, 4), (5, 5), (5, 6), (5, 7), (5, 8), (5, 9), (5, 10), (5, 11), (5, 12), (5, 13), (11, 0), (11, 1), (11, 2), (11, 3), (11, 4), (11, 5), (11, 6), (10, 0), (10, 1), (10, 2), (10, 3), (10, 4), (10, 5), (10, 6), (10, 7), (13, 0), (13, 1), (13, 2), (13, 3), (13, 4), (13, 5), (13, 6), (9, 0), (9, 1)] rfl (by decide +kernel)
set_option maxRecDepth 20000 in
theorem gX2_init_X1_init : GoodIn wsX2_init (wsX1_init) := ggX2_init_X1_init
set_option maxRecDepth 20000 in
theorem ggX2_init_X0_init : GoodIn wsX2_init wsX0_init := goodIn_r2 cbX2_init_f _ [(3, 0), (3, 1), (1, 1), (1, 2), (1, 23), (3, 2), (3, 3), (3, 4), (3, 5), (3, 6), (3, 7), (3, 8), (11, 0), (11, 1), (11, 2), (11, 3), (11, 4), (11, 5), (11, 6)] rfl (by decide +kernel)
set_option maxRecDepth 20000 in
theorem gX2_init_X0_init_n68 : GoodIn wsX2_init (wsX0_init) := ggX2_init_X0_init
set_option maxRecDepth 20000 in
theorem ggX2_begin_X1_wipe : GoodIn wsX2_begin wsX1_wipe := goodIn_r2 cbX2_begin_f _ [(1, 8), (1, 9), (1, 10), (1, 11), (1, 12), (1, 13), (1, 14), (1, 15), (1, 16), (1, 17), (1, 18), (1, 19), (1, 20), (1, 21), (1, 22), (1, 23), (2, 0), (2, 1), (2, 2), (2, 3), (2, 4), (2, 5), (2, 6), (2, 7), (2, 8), (2, 9), (2, 10), (2, 11), (2, 12), (2, 13), (2, 14), (2, 15), (2, 16), (2, 17), (2, 18), (2, 19), (2, 20), (2, 21), (2, 22), (2, 23), (3, 0), (3, 1), (3, 2), (3, 3), (3, 4), (5, 0), (5, 1), (5, 2), (5, 3), (5, 4), (5, 5), (5, 6), (5, 7), (6, 0), (6, 1), (6, 2), (6, 3), (6, 4), (6, 5), (6, 6), (7, 0), (7, 1), (7, 2), (7, 3), (7, 4), (7, 5), (7, 6), (8, 0), (8, 1)] rfl (by decide +kernel)
set_option maxRecDepth 20000 in
theorem gX2_begin_X1_wipe : GoodIn wsX2_begin (wsV RX2 69 RX1 yX1_wipe wsX1_wipe) := goodIn_app (goodIn_of _ (by decide +kernel)) ggX2_begin_X1_wipe
set_option maxRecDepth 20000 in
theorem ggX2_skipBlanks_X6_size : GoodIn wsX2_skipBlanks wsX6_size := goodIn_r _ [7, 8, 26, 27] rfl (by decide +kernel)
set_option maxRecDepth 20000 in
theorem gX2_skipBlanks_X6_size : GoodIn wsX2_skipBlanks (wsV RX2 72 RX6 yX6_size wsX6_size) := goodIn_app (goodIn_of _ (by decide +kernel)) ggX2_skipBlanks_X6_size
set_option maxRecDepth 20000 in
theorem ggX2_skipBlanks_X6_at : GoodIn wsX2_skipBlanks wsX6_at := goodIn_r _ [12, 8, 13, 26, 27] rfl (by decide +kernel)
set_option maxRecDepth 20000 in
theorem gX2_skipBlanks_X6_at : GoodIn wsX2_skipBlanks (wsV RX2 76 RX6 yX6_at wsX6_at) := goodIn_app (goodIn_of _ (by decide +kernel)) ggX2_skipBlanks_X6_at
set_option maxRecDepth 20000 in
theorem ggX2_readHead_X2_skipBlanks : GoodIn wsX2_readHead wsX2_skipBlanks := goodIn_r2 cbX2_readHead_f _ [(1, 7), (1, 1), (1, 0), (1, 8), (1, 9), (1, 10), (1, 11), (1, 12), (1, 13), (1, 14), (1, 15), (1, 16), (1, 17), (1, 18), (16, 0), (16, 1), (16, 2), (16, 3), (16, 4), (16, 5), (16, 6), (16, 7), (16, 8), (16, 9), (16, 10), (16, 11), (17, 0), (17, 1)] rfl (by decide +kernel)
set_option maxRecDepth 20000 in
theorem gX2_readHead_X2_skipBlanks : GoodIn wsX2_readHead (wsV RX2 79 RX2 yX2_skipBlanks wsX2_skipBlanks) := goodIn_app (goodIn_of _ (by decide +kernel)) ggX2_readHead_X2_skipBlanks
set_option maxRecDepth 20000 in
theorem ggX2_readHead_X6_at : GoodIn wsX2_readHead wsX6_at := goodIn_r2 cbX2_readHead_f _ [(1, 17), (1, 13), (1, 18), (17, 0), (17, 1)] rfl (by decide +kernel)
set_option maxRecDepth 20000 in
theorem gX2_readHead_X6_at : GoodIn wsX2_readHead (wsV RX2 76 RX6 yX6_at wsX6_at) := goodIn_app (goodIn_of _ (by decide +kernel)) ggX2_readHead_X6_at
set_option maxRecDepth 20000 in
theorem ggX2_readHead_X2_readTag : GoodIn wsX2_readHead wsX2_readTag := goodIn_r2 cbX2_readHead_f _ [(1, 22), (1, 1), (1, 0), (1, 2), (1, 23), (2, 0), (2, 1), (2, 2), (2, 3), (2, 4), (2, 5), (2, 6), (1, 6), (2, 7), (1, 3), (1, 4), (1, 5), (1, 7), (1, 8), (1, 9), (1, 10), (1, 11), (1, 12), (1, 13), (1, 14), (1, 15), (1, 16), (1, 17), (1, 18), (2, 8), (2, 9), (2, 10), (2, 11), (2, 12), (2, 13), (2, 14), (2, 15), (2, 16), (2, 17), (2, 18), (2, 19), (2, 20), (2, 21), (2, 22), (2, 23), (3, 0), (3, 1), (3, 2), (3, 3), (3, 4), (3, 5), (3, 6), (3, 7), (3, 8), (3, 9), (3, 10), (3, 11), (3, 12), (3, 13), (3, 14), (3, 15), (3, 16), (3, 17), (3, 18), (3, 19), (3, 20), (3, 21), (3, 22), (3, 23), (4, 0), (4, 1), (4, 2), (4, 3), (4, 4), (4, 5), (4, 6), (4, 7), (4, 8), (4, 9), (4, 10), (4, 11), (4, 12), (4, 13), (4, 14), (4, 15), (4, 16), (4, 17), (4, 18), (4, 19), (4, 20), (4, 21), (4, 22), (4, 23), (5, 0), (5, 1), (5, 2), (5, 3), (5, 4), (5, 5), (5, 6), (5, 7), (5, 8), (5, 9), (5, 10), (5, 11), (5, 12), (5, 13), (5, 14), (5, 15), (5, 16), (5, 17), (5, 18), (5, 19), (5, 20), (5, 21), (5, 22), (5, 23), (6, 0), (6, 1), (6, 2), (6, 3), (6, 4), (6, 5), (6, 6), (6, 7), (6, 8), (6, 9), (6, 10), (6, 11), (6, 12), (6, 13), (6, 14), (6, 15), (6, 16), (6, 17), (6, 18), (6, 19), (6, 20), (6, 21), (6, 22), (6, 23), (7, 0), (7, 1), (7, 2), (7, 3), (7, 4), (7, 5), (7, 6), (7, 7), (7, 8), (7, 9), (7, 10), (7, 11), (7, 12), (7, 13), (7, 14), (7, 15), (7, 16), (7, 17), (7, 18), (7, 19), (7, 20), (7, 21), (7, 22), (7, 23), (8, 0), (8, 1), (8, 2), (8, 3), (8, 4), (8, 5), (8, 6), (8, 7), (8, 8), (8, 9), (8, 10), (8, 11), (8, 12), (8, 13), (8, 14), (8, 15), (8, 16), (8, 17), (8, 18), (8, 19), (8, 20), (8, 21), (8, 22), (8, 23), (9, 0), (9, 1), (9, 2), (9, 3), (9, 4), (9, 5), (9, 6), (9, 7), (9, 8), (9, 9), (9, 10), (9, 11), (9, 12), (9, 13), (9, 14), (9, 15), (9, 16), (9, 17), (9, 18), (9, 19), (9, 20), (9, 21), (9, 22), (9, 23), (10, 0), (10, 1), (10, 2), (10, 3), (10, 4), (10, 5), (10, 6), (10, 7), (10, 8), (10, 9), (10, 10), (10, 11), (10, 12), (10, 13), (10, 14), (10, 15), (10, 16), (10, 17), (10, 18), (10, 19), (10, 20), (10, 21), (10, 22), (10, 23), (11, 0), (11, 1), (11, 2), (11, 3), (11, 4), (11, 5), (11, 6), (11, 7), (11, 8), (11, 9), (11, 10), (11, 11), (11, 12), (11, 13), (11, 14), (11, 15), (11, 16), (11, 17), (11, 18), (11, 19), (11, 20), (11, 21), (11, 22), (11, 23), (12, 0), (12, 1), (12, 2), (12, 3), (12, 4), (12, 5), (12, 6), (12, 7), (12, 8), (12, 9), (12, 10), (12, 11), (12, 12), (12, 13), (12, 14), (12, 15), (12, 16), (12, 17), (12, 18), (12, 19), (12, 20), (12, 21), (12, 22), (12, 23), (13, 0), (13, 1), (13, 2), (13, 3), (13, 4), (13, 5), (13, 6), (13, 7), (13, 8), (13, 9), (13, 10), (13, 11), (13, 12), (13, 13), (13, 14), (13, 15), (13, 16), (13, 17), (13, 18), (13, 19), (13, 20), (13, 21), (13, 22), (13, 23), (14, 0), (14, 1), (14, 2), (14, 3), (14, 4), (14, 5), (14, 6), (14, 7), (14, 8), (14, 9), (14, 10), (14, 11), (14, 12), (16, 0), (16, 1), (16, 2), (16, 3), (16, 4), (16, 5), (16, 6), (16, 7), (16, 8), (16, 9), (16, 10), (16, 11), (18, 0), (18, 1), (18, 2), (18, 3), (18, 4), (18, 5), (18, 6), (18, 7), (17, 0), (17, 1), (19, 0), (19, 1), (20, 0), (20, 1), (21, 0), (21, 1), (21, 2), (21, 3), (21, 4), (21, 5), (21, 6)] rfl (by decide +kernel)
set_option maxRecDepth 20000 in
theorem gX2_readHead_X2_readTag : GoodIn wsX2_readHead (wsV RX2 82 RX2 yX2_readTag wsX2_readTag) := goodIn_app (goodIn_of _ (by decide +kernel)) ggX2_readHead_X2_readTag
set_option maxRecDepth 20000 in
theorem ggX2_readHead_X1_at : GoodIn wsX2_readHead wsX1_at := goodIn_r2 cbX2_readHead_f _ [(14, 16), (14, 17), (14, 18), (14, 19), (18, 0), (18, 1), (18, 2), (18, 3), (18, 4), (18, 5), (18, 6), (18, 7)] rfl (by decide +kernel)
set_option maxRecDepth 20000 in
theorem gX2_readHead_X1_at : GoodIn wsX2_readHead (wsV RX2 86 RX1 yX1_at wsX1_at) := goodIn_app (goodIn_of _ (by decide +kernel)) ggX2_readHead_X1_at
set_option maxRecDepth 20000 in
theorem ggX2_readHead_X2_readRemarks : GoodIn wsX2_readHead wsX2_readRemarks := goodIn_r2 cbX2_readHead_f _ [(14, 23), (1, 0), (1, 1), (1, 3), (1, 4), (1, 5), (1, 6), (1, 7), (1, 8), (1, 9), (1, 10), (1, 11), (1, 12), (1, 13), (1, 14), (1, 15), (1, 16), (1, 17), (1, 18), (15, 0), (15, 1), (15, 2), (15, 3), (15, 4), (9, 6), (9, 3), (9, 7), (15, 5), (15, 6), (15, 7), (15, 8), (15, 9), (9, 2), (9, 4), (3, 2), (3, 3), (3, 4), (3, 5), (3, 6), (15, 10), (15, 11), (15, 12), (15, 13), (15, 14), (15, 15), (15, 16), (15, 17), (2, 18), (2, 19), (2, 20), (2, 21), (2, 22), (2, 23), (3, 0), (3, 1), (15, 18), (16, 0), (16, 1), (16, 2), (16, 3), (16, 4), (16, 5), (16, 6), (16, 7), (16, 8), (16, 9), (16, 10), (16, 11), (17, 0), (17, 1), (22, 0), (22, 1), (22, 2), (22, 3), (22, 4), (22, 5), (22, 6)] rfl (by decide +kernel)
set_option maxRecDepth 20000 in
theorem gX2_readHead_X2_readRemarks : GoodIn wsX2_readHead (wsV RX2 89 RX2 yX2_readRemarks wsX2_readRemarks) := goodIn_app (goodIn_of _ (by decide +kernel)) ggX2_readHead_X2_readRemarks
set_option maxRecDepth 20000 in
theorem ggX2_readTag_X2_readName : GoodIn wsX2_readTag wsX2_readName := goodIn_r2 cbX2_readTag_f _ [(1, 12), (1, 0), (1, 4), (1, 1), (1, 13), (1, 14), (1, 15), (1, 11), (1, 16), (1, 17), (1, 18), (1, 19), (1, 20), (1, 21), (1, 22), (1, 23), (2, 0), (2, 1), (2, 2), (2, 3), (2, 4), (2, 5), (2, 6), (2, 7), (2, 8), (2, 9), (2, 10), (2, 11), (2, 12), (2, 13), (2, 14), (2, 15), (2, 16), (2, 17), (2, 18), (2, 19), (2, 20), (2, 21), (2, 22), (2, 23), (3, 0), (3, 1), (3, 2), (15, 0), (15, 1), (15, 2), (15, 3), (15, 4), (15, 5), (15, 6), (15, 7), (15, 8), (15, 9), (15, 10), (15, 11), (17, 0), (17, 1)] rfl (by decide +kernel)
set_option maxRecDepth 20000 in
theorem gX2_readTag_X2_readName : GoodIn wsX2_readTag (wsV RX2 93 RX2 yX2_readName wsX2_readName) := goodIn_app (goodIn_of _ (by decide +kernel)) ggX2_readTag_X2_readName
set_option maxRecDepth 20000 in
theorem ggX2_readTag_X2_readValue : GoodIn wsX2_readTag wsX2_readValue := goodIn_r2 cbX2_readTag_f _ [(3, 6), (1, 1), (1, 0), (1, 5), (1, 13), (1, 14), (1, 15), (1, 11), (1, 16), (1, 17), (1, 18), (1, 19), (1, 20), (1, 21), (1, 22), (1, 23), (2, 0), (2, 1), (2, 2), (2, 3), (2, 22), (2, 23), (3, 0), (3, 1), (3, 2), (2, 4), (2, 5), (2, 6), (2, 7), (2, 13), (2, 14), (2, 15), (2, 16), (2, 17), (2, 18), (2, 19), (2, 20), (2, 21), (15, 0), (15, 1), (15, 2), (15, 3), (15, 4), (15, 5), (15, 6), (15, 7), (15, 8), (15, 9), (15, 10), (15, 11), (17, 0), (17, 1)] rfl (by decide +kernel)
set_option maxRecDepth 20000 in
theorem gX2_readTag_X2_readValue : GoodIn wsX2_readTag (wsV RX2 96 RX2 yX2_readValue wsX2_readValue) := goodIn_app (goodIn_of _ (by decide +kernel)) ggX2_readTag_X2_readValue
set_option maxRecDepth 20000 in
theorem ggX2_readTag_X2_skipBlanks : GoodIn wsX2_readTag wsX2_skipBlanks := goodIn_r2 cbX2_readTag_f _ [(1, 16), (1, 0), (1, 1), (1, 17), (1, 18), (1, 19), (1, 20), (1, 21), (1, 22), (1, 23), (2, 0), (2, 1), (2, 2), (2, 3), (15, 0), (15, 1), (15, 2), (15, 3), (15, 4), (15, 5), (15, 6), (15, 7), (15, 8), (15, 9), (15, 10), (15, 11), (17, 0), (17, 1)] rfl (by decide +kernel)
set_option maxRecDepth 20000 in
theorem gX2_readTag_X2_skipBlanks : GoodIn wsX2_readTag (wsV RX2 79 RX2 yX2_skipBlanks wsX2_skipBlanks) := goodIn_app (goodIn_of _ (by decide +kernel)) ggX2_readTag_X2_skipBlanks
set_option maxRecDepth 20000 in
theorem ggX2_readTag_X6_at : GoodIn wsX2_readTag wsX6_at := goodIn_r2 cbX2_readTag_f _ [(2, 2), (1, 22), (2, 3), (17, 0), (17, 1)] rfl (by decide +kernel)
set_option maxRecDepth 20000 in
theorem gX2_readTag_X6_at : GoodIn wsX2_readTag (wsV RX2 76 RX6 yX6_at wsX6_at) := goodIn_app (goodIn_of _ (by decide +kernel)) ggX2_readTag_X6_at
set_option maxRecDepth 20000 in
theorem ggX2_readTag_X2_refuse : GoodIn wsX2_readTag wsX2_refuse := goodIn_r2 cbX2_readTag_f _ [(3, 1), (3, 2), (15, 0), (15, 1), (15, 2), (15, 3), (15, 4), (15, 5), (15, 6), (15, 7), (15, 8), (15, 9), (15, 10), (15, 11)] rfl (by decide +kernel)
set_option maxRecDepth 20000 in
theorem gX2_readTag_X2_refuse : GoodIn wsX2_readTag (wsV RX2 99 RX2 yX2_refuse wsX2_refuse) := goodIn_app (goodIn_of _ (by decide +kernel)) ggX2_readTag_X2_refuse
set_option maxRecDepth 20000 in
theorem ggX2_readTag_X6_size : GoodIn wsX2_readTag wsX6_size := goodIn_r2 cbX2_readTag_f _ [(1, 21), (1, 22), (17, 0), (17, 1)] rfl (by decide +kernel)
set_option maxRecDepth 20000 in
theorem gX2_readTag_X6_size : GoodIn wsX2_readTag (wsV RX2 72 RX6 yX6_size wsX6_size) := goodIn_app (goodIn_of _ (by decide +kernel)) ggX2_readTag_X6_size
set_option maxRecDepth 20000 in
theorem ggX2_readTag_X1_hasTag : GoodIn wsX2_readTag wsX1_hasTag := goodIn_r2 cbX2_readTag_f _ [(3, 11), (3, 12), (3, 13), (3, 14), (3, 15), (3, 16), (3, 10), (3, 17), (3, 18), (3, 19), (3, 20), (3, 21), (3, 22), (3, 23), (4, 0), (4, 1), (4, 2), (4, 3), (4, 4), (1, 20), (4, 5), (4, 6), (4, 7), (4, 8), (4, 9), (4, 10), (2, 3), (1, 22), (4, 11), (4, 12), (4, 13), (4, 14), (4, 15), (2, 0), (2, 1), (2, 2), (16, 0), (16, 1), (16, 2), (16, 3), (16, 4), (16, 5), (16, 6), (16, 7), (18, 0), (18, 1), (17, 0), (17, 1)] rfl (by decide +kernel)
set_option maxRecDepth 20000 in
theorem gX2_readTag_X1_hasTag : GoodIn wsX2_readTag (wsV RX2 106 RX1 yX1_hasTag wsX1_hasTag) := goodIn_app (goodIn_of _ (by decide +kernel)) ggX2_readTag_X1_hasTag
set_option maxRecDepth 20000 in
theorem ggX2_readTag_X6_is : GoodIn wsX2_readTag wsX6_is := goodIn_r2 cbX2_readTag_f _ [(4, 19), (1, 22), (4, 20), (4, 21), (4, 22), (4, 23), (5, 0), (5, 1), (5, 2), (5, 3), (5, 4), (5, 5), (5, 6), (5, 7), (5, 8), (5, 9), (5, 10), (1, 20), (5, 11), (2, 3), (5, 12), (5, 13), (5, 14), (5, 15), (5, 16), (5, 17), (5, 18), (5, 19), (5, 20), (5, 21), (5, 22), (5, 23), (6, 0), (6, 1), (6, 2), (6, 3), (6, 4), (6, 5), (6, 6), (6, 7), (6, 8), (6, 9), (6, 10), (6, 11), (6, 12), (6, 13), (6, 14), (6, 15), (6, 16), (6, 17), (6, 18), (6, 19), (6, 20), (6, 21), (6, 22), (6, 23), (7, 0), (17, 0), (17, 1)] rfl (by decide +kernel)
set_option maxRecDepth 20000 in
theorem gX2_readTag_X6_is : GoodIn wsX2_readTag (wsV RX2 112 RX6 yX6_is wsX6_is) := goodIn_app (goodIn_of _ (by decide +kernel)) ggX2_readTag_X6_is
set_option maxRecDepth 20000 in
theorem ggX2_readTag_X5_readInto : GoodIn wsX2_readTag wsX5_readInto := goodIn_r2 cbX2_readTag_f _ [(7, 5), (7, 6), (7, 7), (7, 8), (7, 9), (7, 10), (7, 11), (7, 12), (7, 13), (7, 14), (7, 15), (7, 16), (7, 17), (7, 18), (7, 19), (7, 20), (7, 4), (7, 21), (7, 22), (7, 23), (8, 0), (8, 1), (8, 2), (2, 0), (2, 1), (1, 20), (2, 2), (1, 22), (2, 3), (8, 3), (8, 4), (8, 5), (8, 6), (8, 7), (2, 9), (8, 8), (2, 8), (2, 10), (8, 9), (8, 10), (8, 11), (4, 23), (8, 12), (8, 13), (8, 14), (8, 15), (8, 16), (5, 1), (5, 16), (5, 17), (5, 18), (5, 19), (5, 6), (5, 7), (8, 17), (4, 21), (4, 22), (5, 0), (5, 2), (5, 3), (5, 4), (5, 5), (8, 18), (8, 19), (5, 22), (8, 20), (8, 21), (8, 22), (8, 23), (9, 0), (9, 1), (9, 2), (9, 3), (9, 4), (9, 5), (9, 6), (9, 7), (9, 8), (9, 9), (9, 10), (9, 11), (6, 10), (9, 12), (9, 13), (9, 14), (9, 15), (9, 16), (9, 17), (9, 18), (9, 19), (9, 20), (9, 21), (6, 15), (6, 16), (6, 17), (9, 22), (9, 23), (10, 0), (6, 3), (10, 1), (10, 2), (6, 6), (10, 3), (10, 4), (10, 5), (10, 6), (6, 19), (6, 20), (6, 21), (6, 22), (6, 23), (7, 0), (10, 7), (10, 8), (10, 9), (10, 10), (10, 11), (10, 12), (10, 13), (10, 14), (10, 15), (10, 16), (10, 17), (10, 18), (10, 19), (10, 20), (10, 21), (10, 22), (10, 23), (11, 0), (11, 1), (11, 2), (11, 3), (11, 4), (11, 5), (11, 6), (11, 7), (11, 8), (11, 9), (11, 10), (11, 11), (11, 12), (11, 13), (11, 14), (11, 15), (5, 13), (5, 14), (5, 15), (5, 20), (5, 21), (5, 23), (6, 0), (6, 1), (6, 2), (6, 4), (6, 5), (6, 7), (6, 8), (6, 9), (6, 11), (6, 12), (6, 13), (6, 14), (6, 18), (11, 16), (11, 17), (11, 18), (11, 19), (11, 20), (11, 21), (11, 22), (11, 23), (12, 0), (12, 1), (12, 2), (12, 3), (12, 4), (12, 5), (12, 6), (2, 11), (2, 12), (12, 7), (12, 8), (12, 9), (12, 10), (12, 11), (12, 12), (1, 18), (1, 19), (1, 21), (12, 13), (12, 14), (12, 15), (12, 16), (12, 17), (12, 18), (12, 19), (12, 20), (12, 21), (12, 22), (12, 23), (13, 0), (13, 1), (13, 2), (13, 3), (13, 4), (13, 5), (13, 6), (13, 7), (13, 8), (13, 9), (13, 10), (13, 11), (13, 12), (13, 13), (13, 14), (13, 15), (13, 16), (13, 17), (13, 18), (19, 0), (19, 1), (20, 0), (20, 1), (20, 2), (20, 3), (20, 4), (20, 5), (20, 6), (17, 0), (17, 1)] rfl (by decide +kernel)
set_option maxRecDepth 20000 in
theorem gX2_readTag_X5_readInto : GoodIn wsX2_readTag (wsV RX2 120 RX5 yX5_readInto wsX5_readInto) := goodIn_app (goodIn_of _ (by decide +kernel)) ggX2_readTag_X5_readInto
set_option maxRecDepth 20000 in
theorem ggX2_readTag_X1_putTag : GoodIn wsX2_readTag wsX1_putTag := goodIn_r2 cbX2_readTag_f _ [(13, 22), (3, 12), (3, 18), (3, 19), (3, 20), (3, 21), (3, 13), (13, 23), (3, 22), (3, 23), (4, 0), (4, 1), (4, 2), (4, 3), (4, 4), (1, 20), (4, 5), (4, 6), (4, 7), (4, 8), (4, 9), (4, 10), (2, 3), (1, 22), (3, 14), (3, 15), (3, 16), (3, 10), (3, 17), (14, 0), (14, 1), (14, 2), (14, 3), (14, 4), (14, 5), (14, 6), (14, 7), (4, 15), (2, 0), (2, 1), (2, 2), (14, 8), (2, 14), (2, 15), (2, 16), (2, 17), (2, 18), (2, 19), (2, 20), (2, 21), (16, 0), (16, 1), (16, 2), (16, 3), (16, 4), (16, 5), (16, 6), (16, 7), (18, 0), (18, 1), (17, 0), (17, 1)] rfl (by decide +kernel)
set_option maxRecDepth 20000 in
theorem gX2_readTag_X1_putTag : GoodIn wsX2_readTag (wsV RX2 124 RX1 yX1_putTag wsX1_putTag) := goodIn_app (goodIn_of _ (by decide +kernel)) ggX2_readTag_X1_putTag
set_option maxRecDepth 20000 in
theorem ggX2_readName_X2_skipBlanks : GoodIn wsX2_readName wsX2_skipBlanks := goodIn_r2 cbX2_readName_f _ [(1, 7), (1, 0), (1, 2), (1, 8), (1, 9), (1, 10), (1, 11), (1, 12), (1, 13), (1, 14), (1, 15), (1, 16), (1, 17), (1, 18), (3, 0), (3, 1), (3, 2), (3, 3), (3, 4), (3, 5), (3, 6), (3, 7), (3, 8), (3, 9), (3, 10), (3, 11), (4, 0), (4, 1)] rfl (by decide +kernel)
set_option maxRecDepth 20000 in
theorem gX2_readName_X2_skipBlanks : GoodIn wsX2_readName (wsV RX2 79 RX2 yX2_skipBlanks wsX2_skipBlanks) := goodIn_app (goodIn_of _ (by decide +kernel)) ggX2_readName_X2_skipBlanks
set_option maxRecDepth 20000 in
theorem ggX2_readName_X6_keep : GoodIn wsX2_readName wsX6_keep := goodIn_r2 cbX2_readName_f _ [(1, 22), (1, 13), (4, 0), (4, 1)] rfl (by decide +kernel)
set_option maxRecDepth 20000 in
theorem gX2_readName_X6_keep : GoodIn wsX2_readName (wsV RX2 128 RX6 yX6_keep wsX6_keep) := goodIn_app (goodIn_of _ (by decide +kernel)) ggX2_readName_X6_keep
set_option maxRecDepth 20000 in
theorem ggX2_readName_X6_size : GoodIn wsX2_readName wsX6_size := goodIn_r2 cbX2_readName_f _ [(1, 12), (1, 13), (4, 0), (4, 1)] rfl (by decide +kernel)
set_option maxRecDepth 20000 in
theorem gX2_readName_X6_size : GoodIn wsX2_readName (wsV RX2 72 RX6 yX6_size wsX6_size) := goodIn_app (goodIn_of _ (by decide +kernel)) ggX2_readName_X6_size
set_option maxRecDepth 20000 in
theorem ggX2_readName_X6_at : GoodIn wsX2_readName wsX6_at := goodIn_r2 cbX2_readName_f _ [(1, 17), (1, 13), (1, 18), (4, 0), (4, 1)] rfl (by decide +kernel)
set_option maxRecDepth 20000 in
theorem gX2_readName_X6_at : GoodIn wsX2_readName (wsV RX2 76 RX6 yX6_at wsX6_at) := goodIn_app (goodIn_of _ (by decide +kernel)) ggX2_readName_X6_at
set_option maxRecDepth 20000 in
theorem ggX2_readName_X11_isLetter : GoodIn wsX2_readName wsX11_isLetter := goodIn_r _ [26] rfl (by decide +kernel)
set_option maxRecDepth 20000 in
theorem gX2_readName_X11_isLetter_n132 : GoodIn wsX2_readName (wsX11_isLetter) := ggX2_readName_X11_isLetter
set_option maxRecDepth 20000 in
theorem ggX2_readName_X11_isDigit : GoodIn wsX2_readName wsX11_isDigit := goodIn_r _ [28] rfl (by decide +kernel)
set_option maxRecDepth 20000 in
theorem gX2_readName_X11_isDigit_n136 : GoodIn wsX2_readName (wsX11_isDigit) := ggX2_readName_X11_isDigit
set_option maxRecDepth 20000 in
theorem ggX2_readName_X6_put : GoodIn wsX2_readName wsX6_put := goodIn_r2 cbX2_readName_f _ [(2, 7), (1, 13), (1, 18), (2, 8), (2, 9), (2, 10), (2, 11), (2, 12), (4, 0), (4, 1)] rfl (by decide +kernel)
set_option maxRecDepth 20000 in
theorem gX2_readName_X6_put : GoodIn wsX2_readName (wsV RX2 139 RX6 yX6_put wsX6_put) := goodIn_app (goodIn_of _ (by decide +kernel)) ggX2_readName_X6_put
set_option maxRecDepth 20000 in
theorem ggX2_readName_X2_refuse : GoodIn wsX2_readName wsX2_refuse := goodIn_r2 cbX2_readName_f _ [(2, 16), (2, 17), (3, 0), (3, 1), (3, 2), (3, 3), (3, 4), (3, 5), (3, 6), (3, 7), (3, 8), (3, 9), (3, 10), (3, 11)] rfl (by decide +kernel)
set_option maxRecDepth 20000 in
theorem gX2_readName_X2_refuse : GoodIn wsX2_readName (wsV RX2 99 RX2 yX2_refuse wsX2_refuse) := goodIn_app (goodIn_of _ (by decide +kernel)) ggX2_readName_X2_refuse
set_option maxRecDepth 20000 in
theorem ggX2_readValue_X2_skipBlanks : GoodIn wsX2_readValue wsX2_skipBlanks := goodIn_r2 cbX2_readValue_f _ [(1, 7), (1, 1), (1, 0), (1, 8), (1, 9), (1, 10), (1, 11), (1, 12), (1, 13), (1, 14), (1, 15), (1, 16), (1, 17), (1, 18), (3, 0), (3, 1), (3, 2), (3, 3), (3, 4), (3, 5), (3, 6), (3, 7), (3, 8), (3, 9), (3, 10), (3, 11), (4, 0), (4, 1)] rfl (by decide +kernel)
set_option maxRecDepth 20000 in
theorem gX2_readValue_X2_skipBlanks : GoodIn wsX2_readValue (wsV RX2 79 RX2 yX2_skipBlanks wsX2_skipBlanks) := goodIn_app (goodIn_of _ (by decide +kernel)) ggX2_readValue_X2_skipBlanks
set_option maxRecDepth 20000 in
theorem ggX2_readValue_X6_at : GoodIn wsX2_readValue wsX6_at := goodIn_r2 cbX2_readValue_f _ [(1, 17), (1, 13), (1, 18), (4, 0), (4, 1)] rfl (by decide +kernel)
set_option maxRecDepth 20000 in
theorem gX2_readValue_X6_at : GoodIn wsX2_readValue (wsV RX2 76 RX6 yX6_at wsX6_at) := goodIn_app (goodIn_of _ (by decide +kernel)) ggX2_readValue_X6_at
set_option maxRecDepth 20000 in
theorem ggX2_readValue_X2_refuse : GoodIn wsX2_readValue wsX2_refuse := goodIn_r2 cbX2_readValue_f _ [(1, 22), (1, 23), (3, 0), (3, 1), (3, 2), (3, 3), (3, 4), (3, 5), (3, 6), (3, 7), (3, 8), (3, 9), (3, 10), (3, 11)] rfl (by decide +kernel)
set_option maxRecDepth 20000 in
theorem gX2_readValue_X2_refuse : GoodIn wsX2_readValue (wsV RX2 99 RX2 yX2_refuse wsX2_refuse) := goodIn_app (goodIn_of _ (by decide +kernel)) ggX2_readValue_X2_refuse
set_option maxRecDepth 20000 in
theorem ggX2_readValue_X6_keep : GoodIn wsX2_readValue wsX6_keep := goodIn_r2 cbX2_readValue_f _ [(2, 3), (1, 13), (4, 0), (4, 1)] rfl (by decide +kernel)
set_option maxRecDepth 20000 in
theorem gX2_readValue_X6_keep : GoodIn wsX2_readValue (wsV RX2 128 RX6 yX6_keep wsX6_keep) := goodIn_app (goodIn_of _ (by decide +kernel)) ggX2_readValue_X6_keep
set_option maxRecDepth 20000 in
theorem ggX2_readValue_X6_size : GoodIn wsX2_readValue wsX6_size := goodIn_r2 cbX2_readValue_f _ [(1, 12), (1, 13), (4, 0), (4, 1)] rfl (by decide +kernel)
set_option maxRecDepth 20000 in
theorem gX2_readValue_X6_size : GoodIn wsX2_readValue (wsV RX2 72 RX6 yX6_size wsX6_size) := goodIn_app (goodIn_of _ (by decide +kernel)) ggX2_readValue_X6_size
set_option maxRecDepth 20000 in
theorem ggX2_readValue_X6_put : GoodIn wsX2_readValue wsX6_put := goodIn_r2 cbX2_readValue_f _ [(2, 7), (1, 13), (1, 18), (2, 8), (2, 9), (2, 10), (2, 11), (2, 12), (4, 0), (4, 1)] rfl (by decide +kernel)
set_option maxRecDepth 20000 in
theorem gX2_readValue_X6_put : GoodIn wsX2_readValue (wsV RX2 139 RX6 yX6_put wsX6_put) := goodIn_app (goodIn_of _ (by decide +kernel)) ggX2_readValue_X6_put
set_option maxRecDepth 20000 in
theorem ggX2_readRemarks_X2_skipBlanks : GoodIn wsX2_readRemarks wsX2_skipBlanks := goodIn_r2 cbX2_readRemarks_f _ [(1, 6), (1, 1), (1, 0), (1, 7), (1, 8), (1, 9), (1, 10), (1, 11), (1, 12), (1, 13), (1, 14), (1, 15), (1, 16), (1, 17), (4, 0), (4, 1), (4, 2), (4, 3), (4, 4), (4, 5), (4, 6), (4, 7), (4, 8), (4, 9), (4, 10), (4, 11), (5, 0), (5, 1)] rfl (by decide +kernel)
set_option maxRecDepth 20000 in
theorem gX2_readRemarks_X2_skipBlanks : GoodIn wsX2_readRemarks (wsV RX2 79 RX2 yX2_skipBlanks wsX2_skipBlanks) := goodIn_app (goodIn_of _ (by decide +kernel)) ggX2_readRemarks_X2_skipBlanks
set_option maxRecDepth 20000 in
theorem ggX2_readRemarks_X6_at : GoodIn wsX2_readRemarks wsX6_at := goodIn_r2 cbX2_readRemarks_f _ [(1, 16), (1, 12), (1, 17), (5, 0), (5, 1)] rfl (by decide +kernel)
set_option maxRecDepth 20000 in
theorem gX2_readRemarks_X6_at : GoodIn wsX2_readRemarks (wsV RX2 76 RX6 yX6_at wsX6_at) := goodIn_app (goodIn_of _ (by decide +kernel)) ggX2_readRemarks_X6_at
set_option maxRecDepth 20000 in
theorem ggX2_readRemarks_X2_readRemark : GoodIn wsX2_readRemarks wsX2_readRemark := goodIn_r2 cbX2_readRemarks_f _ [(1, 21), (1, 1), (1, 0), (1, 22), (1, 23), (2, 0), (2, 1), (1, 13), (1, 14), (1, 15), (1, 10), (1, 16), (1, 12), (1, 17), (2, 2), (2, 3), (2, 4), (2, 5), (2, 6), (2, 7), (2, 8), (1, 7), (1, 8), (1, 9), (1, 11), (2, 9), (2, 10), (2, 11), (1, 5), (2, 12), (2, 13), (2, 14), (2, 15), (2, 16), (2, 17), (2, 18), (2, 19), (2, 20), (2, 21), (2, 22), (2, 23), (3, 0), (3, 1), (3, 2), (3, 3), (3, 4), (3, 5), (3, 6), (4, 0), (4, 1), (4, 2), (4, 3), (4, 4), (4, 5), (4, 6), (4, 7), (4, 8), (4, 9), (4, 10), (4, 11), (5, 0), (5, 1), (6, 0), (6, 1), (6, 2), (6, 3), (6, 4), (6, 5), (6, 6)] rfl (by decide +kernel)
set_option maxRecDepth 20000 in
theorem gX2_readRemarks_X2_readRemark : GoodIn wsX2_readRemarks (wsV RX2 143 RX2 yX2_readRemark wsX2_readRemark) := goodIn_app (goodIn_of _ (by decide +kernel)) ggX2_readRemarks_X2_readRemark
set_option maxRecDepth 20000 in
theorem ggX2_readRemark_X6_at : GoodIn wsX2_readRemark wsX6_at := goodIn_r2 cbX2_readRemark_f _ [(1, 10), (1, 11), (1, 12), (4, 0), (4, 1)] rfl (by decide +kernel)
set_option maxRecDepth 20000 in
theorem gX2_readRemark_X6_at : GoodIn wsX2_readRemark (wsV RX2 76 RX6 yX6_at wsX6_at) := goodIn_app (goodIn_of _ (by decide +kernel)) ggX2_readRemark_X6_at
set_option maxRecDepth 20000 in
theorem ggX2_readRemark_X6_indexOf : GoodIn wsX2_readRemark wsX6_indexOf := goodIn_r2 cbX2_readRemark_f _ [(1, 16), (1, 17), (1, 18), (1, 4), (1, 19), (1, 11), (1, 12), (4, 0), (4, 1)] rfl (by decide +kernel)
set_option maxRecDepth 20000 in
theorem gX2_readRemark_X6_indexOf : GoodIn wsX2_readRemark (wsV RX2 146 RX6 yX6_indexOf wsX6_indexOf) := goodIn_app (goodIn_of _ (by decide +kernel)) ggX2_readRemark_X6_indexOf
set_option maxRecDepth 20000 in
theorem ggX2_readRemark_X6_size : GoodIn wsX2_readRemark wsX6_size := goodIn_r2 cbX2_readRemark_f _ [(1, 23), (1, 11), (4, 0), (4, 1)] rfl (by decide +kernel)
set_option maxRecDepth 20000 in
theorem gX2_readRemark_X6_size : GoodIn wsX2_readRemark (wsV RX2 72 RX6 yX6_size wsX6_size) := goodIn_app (goodIn_of _ (by decide +kernel)) ggX2_readRemark_X6_size
set_option maxRecDepth 20000 in
theorem ggX2_readRemark_X2_refuse : GoodIn wsX2_readRemark wsX2_refuse := goodIn_r2 cbX2_readRemark_f _ [(2, 4), (2, 5), (3, 0), (3, 1), (3, 2), (3, 3), (3, 4), (3, 5), (3, 6), (3, 7), (3, 8), (3, 9), (3, 10), (3, 11)] rfl (by decide +kernel)
set_option maxRecDepth 20000 in
theorem gX2_readRemark_X2_refuse : GoodIn wsX2_readRemark (wsV RX2 99 RX2 yX2_refuse wsX2_refuse) := goodIn_app (goodIn_of _ (by decide +kernel)) ggX2_readRemark_X2_refuse
set_option maxRecDepth 20000 in
theorem ggX2_readRemark_X4_joinRemark : GoodIn wsX2_readRemark wsX4_joinRemark := goodIn_r2 cbX2_readRemark_f _ [(2, 10), (2, 11), (2, 12), (1, 21), (1, 22), (1, 9), (1, 23), (1, 11), (2, 13), (2, 14), (2, 15), (2, 16), (1, 12), (2, 17), (2, 18), (2, 19), (2, 20), (2, 21), (2, 22), (1, 7), (1, 8), (1, 10), (5, 0), (5, 1), (5, 2), (5, 3), (5, 4), (5, 5), (5, 6), (4, 0), (4, 1)] rfl (by decide +kernel)
set_option maxRecDepth 20000 in
theorem gX2_readRemark_X4_joinRemark : GoodIn wsX2_readRemark (wsV RX2 150 RX4 yX4_joinRemark wsX4_joinRemark) := goodIn_app (goodIn_of _ (by decide +kernel)) ggX2_readRemark_X4_joinRemark
set_option maxRecDepth 20000 in
theorem ggX2_readMoves_X0_copyFrom : GoodIn wsX2_readMoves wsX0_copyFrom := goodIn_r2 cbX2_readMoves_f _ [(1, 11), (1, 12), (1, 13), (1, 14), (1, 15), (1, 16), (1, 17), (1, 18), (1, 19), (1, 20), (1, 21), (1, 22), (21, 0), (21, 1), (21, 2), (21, 3), (21, 4), (21, 5), (21, 6)] rfl (by decide +kernel)
set_option maxRecDepth 20000 in
theorem gX2_readMoves_X0_copyFrom : GoodIn wsX2_readMoves (wsV RX2 162 RX0 yX0_copyFrom wsX0_copyFrom) := goodIn_app (goodIn_of _ (by decide +kernel)) ggX2_readMoves_X0_copyFrom
set_option maxRecDepth 20000 in
theorem ggX2_readMoves_X2_skipBlanks : GoodIn wsX2_readMoves wsX2_skipBlanks := goodIn_r2 cbX2_readMoves_f _ [(2, 3), (1, 6), (1, 5), (2, 4), (2, 5), (2, 6), (2, 7), (2, 8), (2, 9), (2, 10), (2, 11), (2, 12), (2, 13), (2, 14), (19, 0), (19, 1), (19, 2), (19, 3), (19, 4), (19, 5), (19, 6), (19, 7), (19, 8), (19, 9), (19, 10), (19, 11), (22, 0), (22, 1)] rfl (by decide +kernel)
set_option maxRecDepth 20000 in
theorem gX2_readMoves_X2_skipBlanks : GoodIn wsX2_readMoves (wsV RX2 79 RX2 yX2_skipBlanks wsX2_skipBlanks) := goodIn_app (goodIn_of _ (by decide +kernel)) ggX2_readMoves_X2_skipBlanks
set_option maxRecDepth 20000 in
theorem ggX2_readMoves_X2_resultHere : GoodIn wsX2_readMoves wsX2_resultHere := goodIn_r2 cbX2_readMoves_f _ [(2, 18), (1, 5), (1, 6), (2, 19), (2, 20), (2, 21), (2, 22), (2, 23), (3, 0), (2, 7), (3, 1), (2, 9), (2, 14), (3, 2), (3, 3), (3, 4), (3, 5), (3, 6), (3, 7), (3, 8), (3, 9), (3, 10), (3, 11), (3, 12), (3, 13), (3, 14), (3, 15), (3, 16), (3, 17), (3, 18), (3, 19), (3, 20), (3, 21), (3, 22), (3, 23), (4, 0), (4, 1), (4, 2), (4, 3), (4, 4), (4, 5), (4, 6), (4, 7), (4, 8), (4, 9), (4, 10), (4, 11), (4, 12), (4, 13), (4, 14), (4, 15), (4, 16), (4, 17), (4, 18), (4, 19), (4, 20), (4, 21), (4, 22), (4, 23), (5, 0), (5, 1), (5, 2), (19, 0), (19, 1), (19, 2), (19, 3), (19, 4), (19, 5), (19, 6), (19, 7), (19, 8), (19, 9), (19, 10), (19, 11), (22, 0), (22, 1)] rfl (by decide +kernel)
set_option maxRecDepth 20000 in
theorem gX2_readMoves_X2_resultHere : GoodIn wsX2_readMoves (wsV RX2 166 RX2 yX2_resultHere wsX2_resultHere) := goodIn_app (goodIn_of _ (by decide +kernel)) ggX2_readMoves_X2_resultHere
set_option maxRecDepth 20000 in
theorem ggX2_readMoves_X6_at : GoodIn wsX2_readMoves wsX6_at := goodIn_r2 cbX2_readMoves_f _ [(2, 13), (2, 9), (2, 14), (22, 0), (22, 1)] rfl (by decide +kernel)
set_option maxRecDepth 20000 in
theorem gX2_readMoves_X6_at : GoodIn wsX2_readMoves (wsV RX2 76 RX6 yX6_at wsX6_at) := goodIn_app (goodIn_of _ (by decide +kernel)) ggX2_readMoves_X6_at
set_option maxRecDepth 20000 in
theorem ggX2_readMoves_X2_refuse : GoodIn wsX2_readMoves wsX2_refuse := goodIn_r2 cbX2_readMoves_f _ [(5, 6), (5, 7), (19, 0), (19, 1), (19, 2), (19, 3), (19, 4), (19, 5), (19, 6), (19, 7), (19, 8), (19, 9), (19, 10), (19, 11)] rfl (by decide +kernel)
set_option maxRecDepth 20000 in
theorem gX2_readMoves_X2_refuse : GoodIn wsX2_readMoves (wsV RX2 99 RX2 yX2_refuse wsX2_refuse) := goodIn_app (goodIn_of _ (by decide +kernel)) ggX2_readMoves_X2_refuse
set_option maxRecDepth 20000 in
theorem ggX2_readMoves_X2_openLine : GoodIn wsX2_readMoves wsX2_openLine := goodIn_r2 cbX2_readMoves_f _ [(5, 11), (1, 0), (1, 3), (1, 1), (5, 12), (1, 2), (5, 13), (1, 6), (5, 14), (5, 15), (5, 16), (5, 17), (5, 18), (5, 19), (5, 20), (5, 21), (1, 7), (1, 8), (1, 9), (1, 10), (1, 11), (1, 12), (1, 13), (1, 14), (1, 15), (1, 16), (1, 17), (1, 18), (1, 19), (1, 20), (1, 21), (1, 22), (19, 0), (19, 1), (19, 2), (19, 3), (19, 4), (19, 5), (19, 6), (19, 7), (19, 8), (19, 9), (19, 10), (19, 11), (23, 0), (23, 1), (23, 2), (23, 3), (23, 4), (23, 5), (23, 6), (20, 0), (20, 1), (20, 2), (20, 3), (20, 4), (20, 5), (20, 6), (20, 7), (21, 0), (21, 1), (21, 2), (21, 3), (21, 4), (21, 5), (21, 6)] rfl (by decide +kernel)
set_option maxRecDepth 20000 in
theorem gX2_readMoves_X2_openLine : GoodIn wsX2_readMoves (wsV RX2 169 RX2 yX2_openLine wsX2_openLine) := goodIn_app (goodIn_of _ (by decide +kernel)) ggX2_readMoves_X2_openLine
set_option maxRecDepth 20000 in
theorem ggX2_readMoves_X1_at : GoodIn wsX2_readMoves wsX1_at := goodIn_r2 cbX2_readMoves_f _ [(5, 18), (5, 19), (5, 20), (5, 21), (20, 0), (20, 1), (20, 2), (20, 3), (20, 4), (20, 5), (20, 6), (20, 7)] rfl (by decide +kernel)
set_option maxRecDepth 20000 in
theorem gX2_readMoves_X1_at : GoodIn wsX2_readMoves (wsV RX2 86 RX1 yX1_at wsX1_at) := goodIn_app (goodIn_of _ (by decide +kernel)) ggX2_readMoves_X1_at
set_option maxRecDepth 20000 in
theorem ggX2_readMoves_X2_readRemarks : GoodIn wsX2_readMoves wsX2_readRemarks := goodIn_r2 cbX2_readMoves_f _ [(6, 1), (1, 5), (1, 6), (1, 23), (2, 0), (2, 1), (2, 2), (2, 3), (2, 4), (2, 5), (2, 6), (2, 7), (2, 8), (2, 9), (2, 10), (2, 11), (2, 12), (2, 13), (2, 14), (6, 2), (6, 3), (6, 4), (6, 5), (6, 6), (6, 7), (6, 8), (6, 9), (6, 10), (6, 11), (6, 12), (6, 13), (6, 14), (6, 15), (6, 16), (5, 3), (5, 4), (5, 5), (5, 6), (5, 7), (6, 17), (6, 18), (6, 19), (6, 20), (6, 21), (6, 22), (6, 23), (7, 0), (7, 1), (7, 2), (7, 3), (7, 4), (7, 5), (1, 14), (1, 15), (1, 16), (7, 6), (19, 0), (19, 1), (19, 2), (19, 3), (19, 4), (19, 5), (19, 6), (19, 7), (19, 8), (19, 9), (19, 10), (19, 11), (22, 0), (22, 1), (23, 0), (23, 1), (23, 2), (23, 3), (23, 4), (23, 5), (23, 6)] rfl (by decide +kernel)
set_option maxRecDepth 20000 in
theorem gX2_readMoves_X2_readRemarks : GoodIn wsX2_readMoves (wsV RX2 89 RX2 yX2_readRemarks wsX2_readRemarks) := goodIn_app (goodIn_of _ (by decide +kernel)) ggX2_readMoves_X2_readRemarks
set_option maxRecDepth 20000 in
theorem ggX2_readMoves_X2_readMove : GoodIn wsX2_readMoves wsX2_readMove := goodIn_r2 cbX2_readMoves_f _ [(7, 10), (1, 2), (1, 5), (1, 6), (7, 11), (7, 12), (1, 3), (1, 1), (5, 13), (2, 10), (2, 11), (2, 12), (2, 7), (2, 13), (2, 9), (2, 14), (7, 13), (2, 20), (7, 14), (7, 15), (7, 16), (7, 17), (2, 2), (7, 18), (7, 19), (7, 20), (7, 21), (7, 22), (2, 4), (2, 5), (2, 6), (2, 8), (1, 23), (2, 0), (2, 1), (2, 3), (5, 3), (5, 4), (5, 5), (5, 6), (5, 7), (7, 23), (8, 0), (8, 1), (8, 2), (8, 3), (8, 4), (8, 5), (8, 6), (8, 7), (8, 8), (8, 9), (8, 10), (8, 11), (8, 12), (8, 13), (8, 14), (8, 15), (8, 16), (8, 17), (8, 18), (8, 19), (8, 20), (8, 21), (8, 22), (8, 23), (9, 0), (9, 1), (9, 2), (9, 3), (9, 4), (9, 5), (7, 1), (7, 2), (7, 3), (7, 4), (7, 5), (1, 14), (1, 15), (1, 16), (9, 6), (9, 7), (9, 8), (9, 9), (9, 10), (9, 11), (9, 12), (9, 13), (9, 14), (9, 15), (9, 16), (9, 17), (3, 2), (3, 3), (3, 4), (3, 5), (3, 6), (3, 7), (3, 8), (3, 9), (3, 10), (3, 11), (3, 12), (3, 13), (9, 18), (2, 23), (3, 0), (3, 1), (3, 14), (3, 15), (3, 16), (3, 17), (3, 18), (3, 19), (3, 20), (3, 21), (3, 22), (3, 23), (4, 0), (4, 1), (4, 2), (4, 3), (4, 4), (4, 5), (4, 6), (4, 7), (4, 8), (4, 9), (4, 10), (4, 11), (4, 12), (4, 13), (4, 14), (4, 15), (4, 16), (4, 17), (4, 18), (4, 19), (4, 20), (4, 21), (4, 22), (4, 23), (5, 0), (5, 1), (5, 2), (9, 19), (9, 20), (9, 21), (9, 22), (9, 23), (10, 0), (10, 1), (10, 2), (10, 3), (10, 4), (10, 5), (10, 6), (10, 7), (10, 8), (10, 9), (6, 15), (6, 8), (6, 16), (10, 10), (6, 7), (6, 9), (10, 11), (10, 12), (10, 13), (10, 14), (10, 15), (10, 16), (10, 17), (10, 18), (10, 19), (10, 20), (10, 21), (10, 22), (10, 23), (11, 0), (11, 1), (11, 2), (11, 3), (11, 4), (11, 5), (11, 6), (11, 7), (11, 8), (11, 9), (11, 10), (11, 11), (11, 12), (11, 13), (11, 14), (11, 15), (11, 16), (11, 17), (11, 18), (11, 19), (11, 20), (11, 21), (11, 22), (11, 23), (12, 0), (12, 1), (12, 2), (12, 3), (12, 4), (12, 5), (12, 6), (12, 7), (12, 8), (12, 9), (12, 10), (12, 11), (12, 12), (12, 13), (12, 14), (12, 15), (12, 16), (12, 17), (12, 18), (12, 19), (12, 20), (12, 21), (12, 22), (12, 23), (13, 0), (13, 1), (13, 2), (1, 10), (13, 3), (1, 12), (13, 4), (13, 5), (13, 6), (13, 7), (13, 8), (13, 9), (13, 10), (13, 11), (13, 12), (13, 13), (13, 14), (13, 15), (13, 16), (13, 17), (13, 18), (13, 19), (13, 20), (13, 21), (13, 22), (13, 23), (14, 0), (1, 19), (14, 1), (14, 2), (14, 3), (14, 4), (1, 21), (14, 5), (14, 6), (14, 7), (14, 8), (14, 9), (14, 10), (14, 11), (14, 12), (14, 13), (1, 20), (14, 14), (14, 15), (14, 16), (14, 17), (14, 18), (14, 19), (14, 20), (14, 21), (14, 22), (14, 23), (15, 0), (15, 1), (15, 2), (1, 8), (1, 9), (1, 11), (1, 13), (1, 17), (1, 18), (1, 22), (15, 3), (15, 4), (15, 5), (15, 6), (15, 7), (15, 8), (15, 9), (15, 10), (15, 11), (15, 12), (15, 13), (15, 14), (15, 15), (15, 16), (15, 17), (15, 18), (15, 19), (15, 20), (15, 21), (15, 22), (15, 23), (16, 0), (16, 1), (16, 2), (16, 3), (16, 4), (16, 5), (16, 6), (16, 7), (16, 8), (16, 9), (16, 10), (16, 11), (5, 17), (16, 12), (16, 13), (16, 14), (16, 15), (16, 16), (5, 15), (5, 16), (5, 18), (5, 19), (5, 20), (5, 21), (16, 17), (16, 18), (16, 19), (16, 20), (16, 21), (16, 22), (6, 20), (16, 23), (17, 0), (17, 1), (17, 2), (17, 3), (17, 4), (17, 5), (17, 6), (17, 7), (17, 8), (17, 9), (17, 10), (17, 11), (6, 22), (17, 12), (17, 13), (17, 14), (17, 15), (17, 16), (17, 17), (17, 18), (17, 19), (17, 20), (1, 7), (17, 21), (5, 14), (17, 22), (17, 23), (18, 0), (18, 1), (18, 2), (18, 3), (18, 4), (18, 5), (18, 6), (18, 7), (18, 8), (18, 9), (18, 10), (18, 11), (18, 12), (18, 13), (5, 22), (5, 23), (6, 0), (6, 1), (6, 2), (6, 3), (6, 4), (6, 5), (6, 6), (6, 10), (6, 11), (6, 12), (6, 13), (6, 14), (6, 17), (6, 18), (6, 19), (6, 21), (6, 23), (7, 0), (7, 6), (19, 0), (19, 1), (19, 2), (19, 3), (19, 4), (19, 5), (19, 6), (19, 7), (19, 8), (19, 9), (19, 10), (19, 11), (21, 0), (21, 1), (21, 2), (21, 3), (21, 4), (21, 5), (21, 6), (22, 0), (22, 1), (24, 0), (24, 1), (24, 2), (24, 3), (24, 4), (24, 5), (24, 6), (24, 7), (24, 8), (24, 9), (24, 10), (24, 11), (25, 0), (25, 1), (23, 0), (23, 1), (23, 2), (23, 3), (23, 4), (23, 5), (23, 6), (20, 0), (20, 1), (20, 2), (20, 3), (20, 4), (20, 5), (20, 6), (20, 7)] rfl (by decide +kernel)
set_option maxRecDepth 20000 in
theorem gX2_readMoves_X2_readMove : GoodIn wsX2_readMoves (wsV RX2 172 RX2 yX2_readMove wsX2_readMove) := goodIn_app (goodIn_of _ (by decide +kernel)) ggX2_readMoves_X2_readMove
set_option maxRecDepth 20000 in
theorem ggX2_openLine_X1_at : GoodIn wsX2_openLine wsX1_at := goodIn_r2 cbX2_openLine_f _ [(1, 11), (1, 12), (1, 13), (1, 14), (5, 0), (5, 1), (5, 2), (5, 3), (5, 4), (5, 5), (5, 6), (5, 7)] rfl (by decide +kernel)
set_option maxRecDepth 20000 in
theorem gX2_openLine_X1_at : GoodIn wsX2_openLine (wsV RX2 86 RX1 yX1_at wsX1_at) := goodIn_app (goodIn_of _ (by decide +kernel)) ggX2_openLine_X1_at
set_option maxRecDepth 20000 in
theorem ggX2_openLine_X0_copyFrom : GoodIn wsX2_openLine wsX0_copyFrom := goodIn_r2 cbX2_openLine_f _ [(1, 19), (1, 20), (1, 21), (1, 22), (1, 23), (2, 0), (2, 1), (2, 2), (2, 3), (2, 4), (2, 5), (2, 6), (6, 0), (6, 1), (6, 2), (6, 3), (6, 4), (6, 5), (6, 6)] rfl (by decide +kernel)
set_option maxRecDepth 20000 in
theorem gX2_openLine_X0_copyFrom : GoodIn wsX2_openLine (wsV RX2 162 RX0 yX0_copyFrom wsX0_copyFrom) := goodIn_app (goodIn_of _ (by decide +kernel)) ggX2_openLine_X0_copyFrom
set_option maxRecDepth 20000 in
theorem ggX2_readMove_X6_at : GoodIn wsX2_readMove wsX6_at := goodIn_r2 cbX2_readMove_f _ [(1, 12), (1, 13), (1, 14), (20, 0), (20, 1)] rfl (by decide +kernel)
set_option maxRecDepth 20000 in
theorem gX2_readMove_X6_at : GoodIn wsX2_readMove (wsV RX2 76 RX6 yX6_at wsX6_at) := goodIn_app (goodIn_of _ (by decide +kernel)) ggX2_readMove_X6_at
set_option maxRecDepth 20000 in
theorem ggX2_readMove_X11_isDigit : GoodIn wsX2_readMove wsX11_isDigit := goodIn_r _ [18] rfl (by decide +kernel)
set_option maxRecDepth 20000 in
theorem gX2_readMove_X11_isDigit_n136 : GoodIn wsX2_readMove (wsX11_isDigit) := ggX2_readMove_X11_isDigit
set_option maxRecDepth 20000 in
theorem ggX2_readMove_X2_readNumber : GoodIn wsX2_readMove wsX2_readNumber := goodIn_r2 cbX2_readMove_f _ [(1, 22), (1, 2), (1, 1), (1, 23), (2, 0), (2, 1), (1, 21), (2, 2), (1, 8), (1, 9), (1, 10), (1, 11), (1, 12), (1, 13), (1, 14), (1, 15), (1, 16), (1, 17), (2, 3), (2, 4), (2, 5), (2, 6), (2, 7), (2, 8), (2, 9), (2, 10), (2, 11), (2, 12), (2, 13), (2, 14), (2, 15), (18, 0), (18, 1), (18, 2), (18, 3), (18, 4), (18, 5), (18, 6), (18, 7), (18, 8), (18, 9), (18, 10), (18, 11), (20, 0), (20, 1)] rfl (by decide +kernel)
set_option maxRecDepth 20000 in
theorem gX2_readMove_X2_readNumber : GoodIn wsX2_readMove (wsV RX2 182 RX2 yX2_readNumber wsX2_readNumber) := goodIn_app (goodIn_of _ (by decide +kernel)) ggX2_readMove_X2_readNumber
set_option maxRecDepth 20000 in
theorem ggX2_readMove_X11_isLetter : GoodIn wsX2_readMove wsX11_isLetter := goodIn_r2 cbX2_readMove_f _ [(2, 17)] rfl (by decide +kernel)
set_option maxRecDepth 20000 in
theorem gX2_readMove_X11_isLetter_n132 : GoodIn wsX2_readMove (wsX11_isLetter) := ggX2_readMove_X11_isLetter
set_option maxRecDepth 20000 in
theorem ggX2_readMove_X2_refuse : GoodIn wsX2_readMove wsX2_refuse := goodIn_r2 cbX2_readMove_f _ [(2, 14), (2, 15), (18, 0), (18, 1), (18, 2), (18, 3), (18, 4), (18, 5), (18, 6), (18, 7), (18, 8), (18, 9), (18, 10), (18, 11)] rfl (by decide +kernel)
set_option maxRecDepth 20000 in
theorem gX2_readMove_X2_refuse : GoodIn wsX2_readMove (wsV RX2 99 RX2 yX2_refuse wsX2_refuse) := goodIn_app (goodIn_of _ (by decide +kernel)) ggX2_readMove_X2_refuse
set_option maxRecDepth 20000 in
theorem ggX2_readMove_X2_skipSigns : GoodIn wsX2_readMove wsX2_skipSigns := goodIn_r2 cbX2_readMove_f _ [(2, 21), (1, 2), (1, 1), (2, 3), (2, 4), (2, 5), (1, 11), (2, 6), (1, 13), (1, 8), (1, 9), (1, 10), (1, 12), (1, 14), (2, 22), (2, 23), (1, 21), (3, 0), (2, 16), (1, 16), (2, 17), (1, 15), (1, 17), (18, 0), (18, 1), (18, 2), (18, 3), (18, 4), (18, 5), (18, 6), (18, 7), (18, 8), (18, 9), (18, 10), (18, 11), (20, 0), (20, 1)] rfl (by decide +kernel)
set_option maxRecDepth 20000 in
theorem gX2_readMove_X2_skipSigns : GoodIn wsX2_readMove (wsV RX2 185 RX2 yX2_skipSigns wsX2_skipSigns) := goodIn_app (goodIn_of _ (by decide +kernel)) ggX2_readMove_X2_skipSigns
set_option maxRecDepth 20000 in
theorem ggX2_readMove_X8_matched : GoodIn wsX2_readMove wsX8_matched := goodIn_r2 cbX2_readMove_f _ [(3, 5), (3, 6), (3, 7), (3, 8), (3, 9), (3, 10), (3, 11), (3, 12), (3, 13), (3, 4), (3, 14), (3, 15), (3, 16), (3, 17), (3, 18), (1, 11), (3, 19), (1, 13), (3, 20), (2, 4), (2, 5), (2, 6), (3, 21), (1, 9), (1, 10), (1, 12), (1, 14), (3, 22), (3, 23), (4, 0), (4, 1), (4, 2), (4, 3), (4, 4), (4, 5), (4, 6), (4, 7), (4, 8), (4, 9), (4, 10), (4, 11), (4, 12), (4, 13), (4, 14), (4, 15), (4, 16), (4, 17), (4, 18), (4, 19), (4, 20), (4, 21), (4, 22), (4, 23), (5, 0), (5, 1), (5, 2), (5, 3), (5, 4), (5, 5), (5, 6), (5, 7), (5, 8), (5, 9), (5, 10), (5, 11), (5, 12), (5, 13), (5, 14), (5, 15), (5, 16), (5, 17), (5, 18), (5, 19), (5, 20), (5, 21), (5, 22), (5, 23), (6, 0), (6, 1), (6, 2), (6, 3), (6, 4), (6, 5), (6, 6), (6, 7), (6, 8), (6, 9), (6, 10), (6, 11), (6, 12), (6, 13), (6, 14), (6, 15), (6, 16), (6, 17), (6, 18), (6, 19), (6, 20), (6, 21), (6, 22), (6, 23), (7, 0), (1, 16), (7, 1), (7, 2), (7, 3), (7, 4), (7, 5), (7, 6), (7, 7), (7, 8), (7, 9), (7, 10), (7, 11), (7, 12), (7, 13), (7, 14), (7, 15), (7, 16), (7, 17), (7, 18), (7, 19), (7, 20), (7, 21), (7, 22), (7, 23), (8, 0), (8, 1), (8, 2), (8, 3), (8, 4), (8, 5), (8, 6), (8, 7), (8, 8), (8, 9), (8, 10), (8, 11), (8, 12), (8, 13), (8, 14), (8, 15), (8, 16), (8, 17), (8, 18), (8, 19), (8, 20), (8, 21), (8, 22), (8, 23), (9, 0), (9, 1), (9, 2), (9, 3), (9, 4), (9, 5), (9, 6), (9, 7), (9, 8), (9, 9), (9, 10), (9, 11), (9, 12), (9, 13), (9, 14), (9, 15), (9, 16), (9, 17), (9, 18), (9, 19), (9, 20), (9, 21), (9, 22), (9, 23), (10, 0), (10, 1), (10, 2), (10, 3), (10, 4), (10, 5), (10, 6), (10, 7), (10, 8), (10, 9), (10, 10), (10, 11), (10, 12), (10, 13), (10, 14), (10, 15), (10, 16), (10, 17), (10, 18), (10, 19), (10, 20), (10, 21), (10, 22), (10, 23), (11, 0), (11, 1), (11, 2), (11, 3), (11, 4), (11, 5), (11, 6), (11, 7), (11, 8), (11, 9), (11, 10), (11, 11), (11, 12), (11, 13), (11, 14), (11, 15), (11, 16), (11, 17), (11, 18), (11, 19), (11, 20), (11, 21), (11, 22), (11, 23), (12, 0), (12, 1), (12, 2), (12, 3), (12, 4), (12, 5), (12, 6), (12, 7), (12, 8), (12, 9), (12, 10), (12, 11), (12, 12), (12, 13), (12, 14), (12, 15), (12, 16), (12, 17), (12, 18), (12, 19), (12, 20), (12, 21), (12, 22), (12, 23), (13, 0), (13, 1), (13, 2), (13, 3), (13, 4), (13, 5), (13, 6), (13, 7), (13, 8), (13, 9), (13, 10), (13, 11), (13, 12), (13, 13), (13, 14), (13, 15), (13, 16), (13, 17), (13, 18), (13, 19), (13, 20), (13, 21), (13, 22), (13, 23), (14, 0), (14, 1), (14, 2), (14, 3), (14, 4), (14, 5), (14, 6), (21, 0), (21, 1), (21, 2), (21, 3), (21, 4), (21, 5), (21, 6), (21, 7), (21, 8), (21, 9), (21, 10), (21, 11), (20, 0), (20, 1), (19, 0), (19, 1), (19, 2), (19, 3), (19, 4), (19, 5), (19, 6), (22, 0), (22, 1)] rfl (by decide +kernel)
set_option maxRecDepth 20000 in
theorem gX2_readMove_X8_matched : GoodIn wsX2_readMove (wsV RX2 188 RX8 yX8_matched wsX8_matched) := goodIn_app (goodIn_of _ (by decide +kernel)) ggX2_readMove_X8_matched
set_option maxRecDepth 20000 in
theorem ggX2_readMove_X1_childWith : GoodIn wsX2_readMove wsX1_childWith := goodIn_r2 cbX2_readMove_f _ [(14, 11), (14, 12), (14, 13), (14, 14), (14, 15), (14, 16), (14, 17), (14, 10), (14, 18), (14, 19), (14, 20), (14, 21), (23, 0), (23, 1), (23, 2), (23, 3), (23, 4), (23, 5), (23, 6), (24, 0), (24, 1), (24, 2), (24, 3), (24, 4), (24, 5), (24, 6), (24, 7)] rfl (by decide +kernel)
set_option maxRecDepth 20000 in
theorem gX2_readMove_X1_childWith : GoodIn wsX2_readMove (wsV RX2 192 RX1 yX1_childWith wsX1_childWith) := goodIn_app (goodIn_of _ (by decide +kernel)) ggX2_readMove_X1_childWith
set_option maxRecDepth 20000 in
theorem ggX2_readMove_X1_grow : GoodIn wsX2_readMove wsX1_grow := goodIn_r2 cbX2_readMove_f _ [(15, 1), (14, 19), (14, 12), (14, 14), (14, 20), (15, 2), (15, 3), (15, 4), (14, 15), (14, 16), (14, 17), (14, 10), (14, 18), (14, 21), (15, 5), (15, 6), (15, 7), (15, 8), (15, 9), (15, 10), (15, 11), (15, 12), (15, 13), (15, 14), (15, 15), (15, 16), (15, 17), (1, 11), (15, 18), (15, 19), (15, 20), (15, 21), (15, 22), (1, 14), (1, 13), (15, 23), (16, 0), (16, 1), (16, 2), (16, 3), (3, 17), (3, 18), (3, 19), (24, 0), (24, 1), (24, 2), (24, 3), (24, 4), (24, 5), (24, 6), (24, 7), (23, 0), (23, 1), (23, 2), (23, 3), (23, 4), (23, 5), (23, 6), (20, 0), (20, 1)] rfl (by decide +kernel)
set_option maxRecDepth 20000 in
theorem gX2_readMove_X1_grow : GoodIn wsX2_readMove (wsV RX2 195 RX1 yX1_grow wsX1_grow) := goodIn_app (goodIn_of _ (by decide +kernel)) ggX2_readMove_X1_grow
set_option maxRecDepth 20000 in
theorem ggX2_readMove_X0_copyFrom : GoodIn wsX2_readMove wsX0_copyFrom := goodIn_r2 cbX2_readMove_f _ [(12, 20), (10, 15), (12, 21), (4, 4), (4, 5), (4, 6), (12, 22), (12, 23), (11, 13), (12, 4), (11, 18), (13, 0), (19, 0), (19, 1), (19, 2), (19, 3), (19, 4), (19, 5), (19, 6)] rfl (by decide +kernel)
set_option maxRecDepth 20000 in
theorem gX2_readMove_X0_copyFrom : GoodIn wsX2_readMove (wsV RX2 162 RX0 yX0_copyFrom wsX0_copyFrom) := goodIn_app (goodIn_of _ (by decide +kernel)) ggX2_readMove_X0_copyFrom
set_option maxRecDepth 20000 in
theorem ggX2_readMove_X0_play : GoodIn wsX2_readMove wsX0_play := goodIn_r2 cbX2_readMove_f _ [(13, 4), (11, 18), (10, 15), (11, 13), (12, 4), (13, 0), (11, 1), (11, 2), (11, 3), (10, 13), (11, 4), (11, 23), (10, 11), (10, 12), (10, 14), (13, 5), (13, 6), (13, 7), (13, 8), (12, 22), (12, 23), (13, 9), (13, 10), (13, 11), (13, 12), (13, 13), (13, 14), (13, 15), (19, 0), (19, 1), (19, 2), (19, 3), (19, 4), (19, 5), (19, 6)] rfl (by decide +kernel)
set_option maxRecDepth 20000 in
theorem gX2_readMove_X0_play : GoodIn wsX2_readMove (wsV RX2 198 RX0 yX0_play wsX0_play) := goodIn_app (goodIn_of _ (by decide +kernel)) ggX2_readMove_X0_play
set_option maxRecDepth 20000 in
theorem ggX2_readMove_X1_at : GoodIn wsX2_readMove wsX1_at := goodIn_r2 cbX2_readMove_f _ [(14, 18), (14, 19), (14, 20), (14, 21), (24, 0), (24, 1), (24, 2), (24, 3), (24, 4), (24, 5), (24, 6), (24, 7)] rfl (by decide +kernel)
set_option maxRecDepth 20000 in
theorem gX2_readMove_X1_at : GoodIn wsX2_readMove (wsV RX2 86 RX1 yX1_at wsX1_at) := goodIn_app (goodIn_of _ (by decide +kernel)) ggX2_readMove_X1_at
set_option maxRecDepth 20000 in
theorem ggX2_readMove_X2_readMarks : GoodIn wsX2_readMove wsX2_readMarks := goodIn_r2 cbX2_readMove_f _ [(16, 10), (1, 1), (1, 2), (2, 7), (2, 8), (2, 9), (1, 21), (2, 10), (2, 3), (2, 4), (2, 5), (1, 11), (2, 6), (1, 13), (1, 8), (1, 9), (1, 10), (1, 12), (1, 14), (16, 11), (16, 12), (16, 13), (16, 14), (16, 15), (16, 16), (15, 4), (16, 17), (15, 15), (15, 14), (16, 18), (16, 19), (16, 20), (16, 21), (16, 22), (1, 23), (2, 0), (2, 1), (2, 2), (1, 15), (1, 16), (1, 17), (2, 11), (2, 12), (2, 13), (2, 14), (2, 15), (18, 0), (18, 1), (18, 2), (18, 3), (18, 4), (18, 5), (18, 6), (18, 7), (18, 8), (18, 9), (18, 10), (18, 11), (20, 0), (20, 1), (23, 0), (23, 1), (23, 2), (23, 3), (23, 4), (23, 5), (23, 6)] rfl (by decide +kernel)
set_option maxRecDepth 20000 in
theorem gX2_readMove_X2_readMarks : GoodIn wsX2_readMove (wsV RX2 201 RX2 yX2_readMarks wsX2_readMarks) := goodIn_app (goodIn_of _ (by decide +kernel)) ggX2_readMove_X2_readMarks
set_option maxRecDepth 20000 in
theorem ggX2_readMove_X2_readRemarks : GoodIn wsX2_readMove wsX2_readRemarks := goodIn_r2 cbX2_readMove_f _ [(17, 2), (1, 1), (1, 2), (2, 7), (2, 8), (2, 9), (1, 21), (2, 10), (2, 3), (2, 4), (2, 5), (1, 11), (2, 6), (1, 13), (1, 8), (1, 9), (1, 10), (1, 12), (1, 14), (17, 3), (17, 4), (17, 5), (17, 6), (17, 7), (7, 19), (7, 16), (7, 20), (17, 8), (17, 9), (17, 10), (17, 11), (17, 12), (7, 15), (7, 17), (2, 11), (2, 12), (2, 13), (2, 14), (2, 15), (17, 13), (17, 14), (17, 15), (15, 4), (17, 16), (15, 18), (17, 17), (17, 18), (3, 23), (4, 0), (4, 1), (4, 2), (4, 3), (4, 4), (4, 5), (4, 6), (17, 19), (18, 0), (18, 1), (18, 2), (18, 3), (18, 4), (18, 5), (18, 6), (18, 7), (18, 8), (18, 9), (18, 10), (18, 11), (20, 0), (20, 1), (23, 0), (23, 1), (23, 2), (23, 3), (23, 4), (23, 5), (23, 6)] rfl (by decide +kernel)
set_option maxRecDepth 20000 in
theorem gX2_readMove_X2_readRemarks : GoodIn wsX2_readMove (wsV RX2 89 RX2 yX2_readRemarks wsX2_readRemarks) := goodIn_app (goodIn_of _ (by decide +kernel)) ggX2_readMove_X2_readRemarks
set_option maxRecDepth 20000 in
theorem ggX2_readNumber_X2_readDigits : GoodIn wsX2_readNumber wsX2_readDigits := goodIn_r2 cbX2_readNumber_f _ [(1, 6), (1, 0), (1, 1), (1, 7), (1, 8), (1, 9), (1, 10), (1, 11), (1, 12), (1, 13), (1, 14), (1, 15), (1, 16), (3, 0), (3, 1), (3, 2), (3, 3), (3, 4), (3, 5), (3, 6), (3, 7), (3, 8), (3, 9), (3, 10), (3, 11), (4, 0), (4, 1)] rfl (by decide +kernel)
set_option maxRecDepth 20000 in
theorem gX2_readNumber_X2_readDigits : GoodIn wsX2_readNumber (wsV RX2 204 RX2 yX2_readDigits wsX2_readDigits) := goodIn_app (goodIn_of _ (by decide +kernel)) ggX2_readNumber_X2_readDigits
set_option maxRecDepth 20000 in
theorem ggX2_readNumber_X6_size : GoodIn wsX2_readNumber wsX6_size := goodIn_r2 cbX2_readNumber_f _ [(1, 20), (1, 12), (4, 0), (4, 1)] rfl (by decide +kernel)
set_option maxRecDepth 20000 in
theorem gX2_readNumber_X6_size : GoodIn wsX2_readNumber (wsV RX2 72 RX6 yX6_size wsX6_size) := goodIn_app (goodIn_of _ (by decide +kernel)) ggX2_readNumber_X6_size
set_option maxRecDepth 20000 in
theorem ggX2_readNumber_X6_at : GoodIn wsX2_readNumber wsX6_at := goodIn_r2 cbX2_readNumber_f _ [(1, 11), (1, 12), (1, 13), (4, 0), (4, 1)] rfl (by decide +kernel)
set_option maxRecDepth 20000 in
theorem gX2_readNumber_X6_at : GoodIn wsX2_readNumber (wsV RX2 76 RX6 yX6_at wsX6_at) := goodIn_app (goodIn_of _ (by decide +kernel)) ggX2_readNumber_X6_at
set_option maxRecDepth 20000 in
theorem ggX2_readNumber_X2_skipBlanks : GoodIn wsX2_readNumber wsX2_skipBlanks := goodIn_r2 cbX2_readNumber_f _ [(2, 0), (1, 0), (1, 1), (1, 17), (1, 18), (1, 19), (1, 10), (1, 20), (1, 12), (1, 7), (1, 8), (1, 9), (1, 11), (1, 13), (3, 0), (3, 1), (3, 2), (3, 3), (3, 4), (3, 5), (3, 6), (3, 7), (3, 8), (3, 9), (3, 10), (3, 11), (4, 0), (4, 1)] rfl (by decide +kernel)
set_option maxRecDepth 20000 in
theorem gX2_readNumber_X2_skipBlanks : GoodIn wsX2_readNumber (wsV RX2 79 RX2 yX2_skipBlanks wsX2_skipBlanks) := goodIn_app (goodIn_of _ (by decide +kernel)) ggX2_readNumber_X2_skipBlanks
set_option maxRecDepth 20000 in
theorem ggX2_readNumber_X2_refuse : GoodIn wsX2_readNumber wsX2_refuse := goodIn_r2 cbX2_readNumber_f _ [(2, 4), (2, 5), (3, 0), (3, 1), (3, 2), (3, 3), (3, 4), (3, 5), (3, 6), (3, 7), (3, 8), (3, 9), (3, 10), (3, 11)] rfl (by decide +kernel)
set_option maxRecDepth 20000 in
theorem gX2_readNumber_X2_refuse : GoodIn wsX2_readNumber (wsV RX2 99 RX2 yX2_refuse wsX2_refuse) := goodIn_app (goodIn_of _ (by decide +kernel)) ggX2_readNumber_X2_refuse
set_option maxRecDepth 20000 in
theorem ggX2_readDigits_X6_at : GoodIn wsX2_readDigits wsX6_at := goodIn_r _ [7, 8, 9, 25, 26] rfl (by decide +kernel)
set_option maxRecDepth 20000 in
theorem gX2_readDigits_X6_at : GoodIn wsX2_readDigits (wsV RX2 76 RX6 yX6_at wsX6_at) := goodIn_app (goodIn_of _ (by decide +kernel)) ggX2_readDigits_X6_at
set_option maxRecDepth 20000 in
theorem ggX2_readDigits_X11_isDigit : GoodIn wsX2_readDigits wsX11_isDigit := goodIn_r _ [12] rfl (by decide +kernel)
set_option maxRecDepth 20000 in
theorem gX2_readDigits_X11_isDigit_n136 : GoodIn wsX2_readDigits (wsX11_isDigit) := ggX2_readDigits_X11_isDigit
set_option maxRecDepth 20000 in
theorem ggX2_skipSigns_X6_size : GoodIn wsX2_skipSigns wsX6_size := goodIn_r _ [7, 8, 35, 36] rfl (by decide +kernel)
set_option maxRecDepth 20000 in
theorem gX2_skipSigns_X6_size : GoodIn wsX2_skipSigns (wsV RX2 72 RX6 yX6_size wsX6_size) := goodIn_app (goodIn_of _ (by decide +kernel)) ggX2_skipSigns_X6_size
set_option maxRecDepth 20000 in
theorem ggX2_skipSigns_X6_at : GoodIn wsX2_skipSigns wsX6_at := goodIn_r _ [12, 8, 13, 35, 36] rfl (by decide +kernel)
set_option maxRecDepth 20000 in
theorem gX2_skipSigns_X6_at : GoodIn wsX2_skipSigns (wsV RX2 76 RX6 yX6_at wsX6_at) := goodIn_app (goodIn_of _ (by decide +kernel)) ggX2_skipSigns_X6_at
set_option maxRecDepth 20000 in
theorem ggX2_skipSigns_X2_isSign : GoodIn wsX2_skipSigns wsX2_isSign := goodIn_r _ [17, 18, 19, 20, 21, 22] rfl (by decide +kernel)
set_option maxRecDepth 20000 in
theorem gX2_skipSigns_X2_isSign : GoodIn wsX2_skipSigns (va_wsS RX2 208 yX2_isSign wsX2_isSign) := goodIn_app (goodIn_of _ (by decide +kernel)) ggX2_skipSigns_X2_isSign
set_option maxRecDepth 20000 in
theorem ggX2_isSign_X11_isLetter : GoodIn wsX2_isSign wsX11_isLetter := goodIn_r _ [3] rfl (by decide +kernel)
set_option maxRecDepth 20000 in
theorem gX2_isSign_X11_isLetter_n132 : GoodIn wsX2_isSign (wsX11_isLetter) := ggX2_isSign_X11_isLetter
set_option maxRecDepth 20000 in
theorem ggX2_isSign_X11_isDigit : GoodIn wsX2_isSign wsX11_isDigit := goodIn_r _ [5] rfl (by decide +kernel)
set_option maxRecDepth 20000 in
theorem gX2_isSign_X11_isDigit_n136 : GoodIn wsX2_isSign (wsX11_isDigit) := ggX2_isSign_X11_isDigit
set_option maxRecDepth 20000 in
theorem ggX2_readMarks_X2_skipBlanks : GoodIn wsX2_readMarks wsX2_skipBlanks := goodIn_r2 cbX2_readMarks_f _ [(1, 6), (1, 1), (1, 0), (1, 7), (1, 8), (1, 9), (1, 10), (1, 11), (1, 12), (1, 13), (1, 14), (1, 15), (1, 16), (1, 17), (3, 0), (3, 1), (3, 2), (3, 3), (3, 4), (3, 5), (3, 6), (3, 7), (3, 8), (3, 9), (3, 10), (3, 11), (4, 0), (4, 1)] rfl (by decide +kernel)
set_option maxRecDepth 20000 in
theorem gX2_readMarks_X2_skipBlanks : GoodIn wsX2_readMarks (wsV RX2 79 RX2 yX2_skipBlanks wsX2_skipBlanks) := goodIn_app (goodIn_of _ (by decide +kernel)) ggX2_readMarks_X2_skipBlanks
set_option maxRecDepth 20000 in
theorem ggX2_readMarks_X6_at : GoodIn wsX2_readMarks wsX6_at := goodIn_r2 cbX2_readMarks_f _ [(1, 16), (1, 12), (1, 17), (4, 0), (4, 1)] rfl (by decide +kernel)
set_option maxRecDepth 20000 in
theorem gX2_readMarks_X6_at : GoodIn wsX2_readMarks (wsV RX2 76 RX6 yX6_at wsX6_at) := goodIn_app (goodIn_of _ (by decide +kernel)) ggX2_readMarks_X6_at
set_option maxRecDepth 20000 in
theorem ggX2_readMarks_X2_shortMark : GoodIn wsX2_readMarks wsX2_shortMark := goodIn_r _ [21] rfl (by decide +kernel)
set_option maxRecDepth 20000 in
theorem gX2_readMarks_X2_shortMark : GoodIn wsX2_readMarks (va_wsS RX2 211 yX2_shortMark wsX2_shortMark) := goodIn_app (goodIn_of _ (by decide +kernel)) ggX2_readMarks_X2_shortMark
set_option maxRecDepth 20000 in
theorem ggX2_readMarks_X4_putMark : GoodIn wsX2_readMarks wsX4_putMark := goodIn_r2 cbX2_readMarks_f _ [(2, 1), (2, 2), (2, 3), (5, 0), (5, 1), (5, 2), (5, 3), (5, 4), (5, 5), (5, 6)] rfl (by decide +kernel)
set_option maxRecDepth 20000 in
theorem gX2_readMarks_X4_putMark : GoodIn wsX2_readMarks (wsV RX2 215 RX4 yX4_putMark wsX4_putMark) := goodIn_app (goodIn_of _ (by decide +kernel)) ggX2_readMarks_X4_putMark
set_option maxRecDepth 20000 in
theorem ggX2_readMarks_X2_readMark : GoodIn wsX2_readMarks wsX2_readMark := goodIn_r2 cbX2_readMarks_f _ [(2, 7), (1, 1), (2, 8), (1, 0), (2, 9), (2, 10), (2, 11), (1, 5), (2, 12), (1, 13), (1, 14), (1, 15), (1, 10), (1, 16), (1, 12), (1, 17), (2, 13), (2, 14), (2, 15), (2, 16), (2, 17), (2, 18), (2, 19), (2, 20), (1, 21), (1, 22), (1, 23), (2, 0), (2, 1), (2, 2), (2, 3), (3, 0), (3, 1), (3, 2), (3, 3), (3, 4), (3, 5), (3, 6), (3, 7), (3, 8), (3, 9), (3, 10), (3, 11), (5, 0), (5, 1), (5, 2), (5, 3), (5, 4), (5, 5), (5, 6), (4, 0), (4, 1)] rfl (by decide +kernel)
set_option maxRecDepth 20000 in
theorem gX2_readMarks_X2_readMark : GoodIn wsX2_readMarks (wsV RX2 218 RX2 yX2_readMark wsX2_readMark) := goodIn_app (goodIn_of _ (by decide +kernel)) ggX2_readMarks_X2_readMark
set_option maxRecDepth 20000 in
theorem ggX2_readMark_X2_readDigits : GoodIn wsX2_readMark wsX2_readDigits := goodIn_r2 cbX2_readMark_f _ [(1, 7), (1, 0), (1, 2), (1, 8), (1, 9), (1, 10), (1, 11), (1, 12), (1, 13), (1, 14), (1, 15), (1, 16), (1, 17), (3, 0), (3, 1), (3, 2), (3, 3), (3, 4), (3, 5), (3, 6), (3, 7), (3, 8), (3, 9), (3, 10), (3, 11), (5, 0), (5, 1)] rfl (by decide +kernel)
set_option maxRecDepth 20000 in
theorem gX2_readMark_X2_readDigits : GoodIn wsX2_readMark (wsV RX2 204 RX2 yX2_readDigits wsX2_readDigits) := goodIn_app (goodIn_of _ (by decide +kernel)) ggX2_readMark_X2_readDigits
set_option maxRecDepth 20000 in
theorem ggX2_readMark_X2_refuse : GoodIn wsX2_readMark wsX2_refuse := goodIn_r2 cbX2_readMark_f _ [(1, 21), (1, 22), (3, 0), (3, 1), (3, 2), (3, 3), (3, 4), (3, 5), (3, 6), (3, 7), (3, 8), (3, 9), (3, 10), (3, 11)] rfl (by decide +kernel)
set_option maxRecDepth 20000 in
theorem gX2_readMark_X2_refuse : GoodIn wsX2_readMark (wsV RX2 99 RX2 yX2_refuse wsX2_refuse) := goodIn_app (goodIn_of _ (by decide +kernel)) ggX2_readMark_X2_refuse
set_option maxRecDepth 20000 in
theorem ggX2_readMark_X6_at : GoodIn wsX2_readMark wsX6_at := goodIn_r2 cbX2_readMark_f _ [(1, 12), (1, 13), (1, 14), (5, 0), (5, 1)] rfl (by decide +kernel)
set_option maxRecDepth 20000 in
theorem gX2_readMark_X6_at : GoodIn wsX2_readMark (wsV RX2 76 RX6 yX6_at wsX6_at) := goodIn_app (goodIn_of _ (by decide +kernel)) ggX2_readMark_X6_at
set_option maxRecDepth 20000 in
theorem ggX2_readMark_X11_isDigit : GoodIn wsX2_readMark wsX11_isDigit := goodIn_r _ [18] rfl (by decide +kernel)
set_option maxRecDepth 20000 in
theorem gX2_readMark_X11_isDigit_n136 : GoodIn wsX2_readMark (wsX11_isDigit) := ggX2_readMark_X11_isDigit
set_option maxRecDepth 20000 in
theorem ggX2_readMark_X4_putMark : GoodIn wsX2_readMark wsX4_putMark := goodIn_r2 cbX2_readMark_f _ [(2, 3), (2, 4), (2, 5), (4, 0), (4, 1), (4, 2), (4, 3), (4, 4), (4, 5), (4, 6)] rfl (by decide +kernel)
set_option maxRecDepth 20000 in
theorem gX2_readMark_X4_putMark : GoodIn wsX2_readMark (wsV RX2 215 RX4 yX4_putMark wsX4_putMark) := goodIn_app (goodIn_of _ (by decide +kernel)) ggX2_readMark_X4_putMark
set_option maxRecDepth 20000 in
theorem ggX2_resultHere_X11_resultSign : GoodIn wsX2_resultHere wsX11_resultSign := goodIn_r _ [5] rfl (by decide +kernel)
set_option maxRecDepth 20000 in
theorem gX2_resultHere_X11_resultSign_n224 : GoodIn wsX2_resultHere (wsX11_resultSign) := ggX2_resultHere_X11_resultSign
set_option maxRecDepth 20000 in
theorem ggX2_resultHere_X6_holds : GoodIn wsX2_resultHere wsX6_holds := goodIn_r2 cbX2_resultHere_f _ [(1, 9), (1, 10), (1, 11), (1, 12), (1, 13), (1, 14), (1, 15), (1, 16), (1, 17), (1, 18), (1, 19), (1, 20), (1, 21), (1, 22), (1, 23), (2, 0), (2, 1), (2, 2), (2, 3), (2, 4), (2, 5), (2, 6), (2, 7), (2, 8), (2, 9), (2, 10), (2, 11), (2, 12), (2, 13), (2, 14), (2, 15), (2, 16), (2, 17), (2, 18), (2, 19), (2, 20), (2, 21), (2, 22), (2, 23), (3, 0), (3, 1), (3, 2), (3, 3), (3, 4), (3, 5), (3, 6), (3, 7), (3, 8), (3, 9), (3, 10), (3, 11), (3, 12), (5, 0), (5, 1)] rfl (by decide +kernel)
set_option maxRecDepth 20000 in
theorem gX2_resultHere_X6_holds : GoodIn wsX2_resultHere (wsV RX2 228 RX6 yX6_holds wsX6_holds) := goodIn_app (goodIn_of _ (by decide +kernel)) ggX2_resultHere_X6_holds
set_option maxRecDepth 20000 in
theorem ggX2_readEnd_X2_resultHere : GoodIn wsX2_readEnd wsX2_resultHere := goodIn_r2 cbX2_readEnd_f _ [(1, 8), (1, 3), (1, 1), (1, 9), (1, 10), (1, 11), (1, 12), (1, 13), (1, 14), (1, 15), (1, 16), (1, 17), (1, 18), (1, 19), (1, 20), (1, 21), (1, 22), (1, 23), (2, 0), (2, 1), (2, 2), (2, 3), (2, 4), (2, 5), (2, 6), (2, 7), (2, 8), (2, 9), (2, 10), (2, 11), (2, 12), (2, 13), (2, 14), (2, 15), (2, 16), (2, 17), (2, 18), (2, 19), (2, 20), (2, 21), (2, 22), (2, 23), (3, 0), (3, 1), (3, 2), (3, 3), (3, 4), (3, 5), (3, 6), (3, 7), (3, 8), (3, 9), (3, 10), (3, 11), (3, 12), (3, 13), (3, 14), (3, 15), (3, 16), (3, 17), (3, 18), (3, 19), (6, 0), (6, 1), (6, 2), (6, 3), (6, 4), (6, 5), (6, 6), (6, 7), (6, 8), (6, 9), (6, 10), (6, 11), (8, 0), (8, 1)] rfl (by decide +kernel)
set_option maxRecDepth 20000 in
theorem gX2_readEnd_X2_resultHere : GoodIn wsX2_readEnd (wsV RX2 166 RX2 yX2_resultHere wsX2_resultHere) := goodIn_app (goodIn_of _ (by decide +kernel)) ggX2_readEnd_X2_resultHere
set_option maxRecDepth 20000 in
theorem ggX2_readEnd_X1_agreesWith : GoodIn wsX2_readEnd wsX1_agreesWith := goodIn_r2 cbX2_readEnd_f _ [(4, 0), (4, 1), (4, 2), (4, 3), (4, 4), (4, 5), (4, 6), (3, 23), (4, 7), (4, 8), (4, 9), (4, 10), (4, 11), (4, 12), (4, 13), (4, 14), (4, 15), (4, 16), (4, 17), (4, 18), (1, 15), (4, 19), (4, 20), (4, 21), (4, 22), (4, 23), (5, 0), (1, 18), (1, 17), (5, 1), (5, 2), (5, 3), (5, 4), (1, 19), (1, 20), (1, 21), (1, 22), (1, 23), (2, 0), (2, 1), (2, 2), (2, 3), (2, 4), (2, 5), (2, 6), (5, 5), (1, 13), (1, 14), (1, 16), (2, 7), (2, 8), (2, 9), (2, 10), (2, 11), (2, 12), (2, 13), (2, 14), (2, 15), (2, 16), (2, 17), (2, 18), (2, 19), (2, 20), (2, 21), (2, 22), (2, 23), (3, 0), (3, 1), (3, 2), (3, 3), (3, 4), (3, 5), (3, 6), (3, 7), (3, 8), (3, 9), (3, 10), (3, 11), (3, 12), (3, 13), (3, 14), (3, 15), (3, 16), (3, 17), (3, 18), (3, 19), (1, 9), (1, 10), (1, 11), (7, 0), (7, 1), (7, 2), (7, 3), (7, 4), (7, 5), (7, 6), (7, 7), (9, 0), (9, 1), (8, 0), (8, 1)] rfl (by decide +kernel)
set_option maxRecDepth 20000 in
theorem gX2_readEnd_X1_agreesWith : GoodIn wsX2_readEnd (wsV RX2 232 RX1 yX1_agreesWith wsX1_agreesWith) := goodIn_app (goodIn_of _ (by decide +kernel)) ggX2_readEnd_X1_agreesWith
set_option maxRecDepth 20000 in
theorem ggX2_readEnd_X2_refuse : GoodIn wsX2_readEnd wsX2_refuse := goodIn_r2 cbX2_readEnd_f _ [(5, 9), (5, 10), (6, 0), (6, 1), (6, 2), (6, 3), (6, 4), (6, 5), (6, 6), (6, 7), (6, 8), (6, 9), (6, 10), (6, 11)] rfl (by decide +kernel)
set_option maxRecDepth 20000 in
theorem gX2_readEnd_X2_refuse : GoodIn wsX2_readEnd (wsV RX2 99 RX2 yX2_refuse wsX2_refuse) := goodIn_app (goodIn_of _ (by decide +kernel)) ggX2_readEnd_X2_refuse
set_option maxRecDepth 20000 in
theorem ggX2_readEnd_X11_resultSign : GoodIn wsX2_readEnd wsX11_resultSign := goodIn_r _ [12] rfl (by decide +kernel)
set_option maxRecDepth 20000 in
theorem gX2_readEnd_X11_resultSign_n224 : GoodIn wsX2_readEnd (wsX11_resultSign) := ggX2_readEnd_X11_resultSign
set_option maxRecDepth 20000 in
theorem ggX2_readEnd_J0_length_8abf5 : GoodIn wsX2_readEnd wsJ0_length_8abf5 := goodIn_r _ [24, 25, 26, 27, 28, 23, 29, 30, 31] rfl (by decide +kernel)
set_option maxRecDepth 20000 in
theorem gX2_readEnd_J0_length_8abf5 : GoodIn wsX2_readEnd (wsV RX2 238 RJ0 yJ0_length_8abf5 wsJ0_length_8abf5) := goodIn_app (goodIn_of _ (by decide +kernel)) ggX2_readEnd_J0_length_8abf5
set_option maxRecDepth 20000 in
theorem ggX2_readEnd_X2_skipBlanks : GoodIn wsX2_readEnd wsX2_skipBlanks := goodIn_r2 cbX2_readEnd_f _ [(5, 15), (1, 1), (1, 3), (5, 16), (5, 17), (5, 18), (1, 15), (5, 19), (1, 17), (5, 20), (5, 21), (5, 22), (5, 23), (1, 18), (6, 0), (6, 1), (6, 2), (6, 3), (6, 4), (6, 5), (6, 6), (6, 7), (6, 8), (6, 9), (6, 10), (6, 11), (8, 0), (8, 1)] rfl (by decide +kernel)
set_option maxRecDepth 20000 in
theorem gX2_readEnd_X2_skipBlanks : GoodIn wsX2_readEnd (wsV RX2 79 RX2 yX2_skipBlanks wsX2_skipBlanks) := goodIn_app (goodIn_of _ (by decide +kernel)) ggX2_readEnd_X2_skipBlanks
set_option maxRecDepth 20000 in
theorem ggX2_readEnd_X6_size : GoodIn wsX2_readEnd wsX6_size := goodIn_r2 cbX2_readEnd_f _ [(5, 19), (1, 17), (8, 0), (8, 1)] rfl (by decide +kernel)
set_option maxRecDepth 20000 in
theorem gX2_readEnd_X6_size : GoodIn wsX2_readEnd (wsV RX2 72 RX6 yX6_size wsX6_size) := goodIn_app (goodIn_of _ (by decide +kernel)) ggX2_readEnd_X6_size
end
section
set_option maxRecDepth 20000 in
theorem ggX3_init_X9_init : GoodIn wsX3_init wsX9_init := goodIn_r2 cbX3_init_f _ [(1, 12), (1, 13), (1, 1), (1, 2), (1, 14), (1, 15), (1, 16), (1, 17), (1, 18), (1, 19), (1, 20), (1, 21), (1, 9), (1, 10), (1, 22), (1, 23), (2, 0), (2, 1), (2, 2), (2, 3), (2, 4), (2, 5), (2, 6), (2, 7), (2, 8), (2, 9), (2, 10), (6, 0), (6, 1), (3, 0), (5, 0), (5, 1), (5, 2), (5, 3), (5, 4), (5, 5), (5, 6)] rfl (by decide +kernel)
set_option maxRecDepth 20000 in
theorem gX3_init_X9_init_n11 : GoodIn wsX3_init (wsX9_init) := ggX3_init_X9_init
set_option maxRecDepth 20000 in
theorem ggX3_init_X0_init : GoodIn wsX3_init wsX0_init := goodIn_r2 cbX3_init_f _ [(2, 1), (2, 2), (1, 1), (1, 2), (2, 3), (2, 4), (2, 5), (2, 6), (2, 7), (2, 8), (2, 9), (2, 10), (5, 0), (5, 1), (5, 2), (5, 3), (5, 4), (5, 5), (5, 6)] rfl (by decide +kernel)
set_option maxRecDepth 20000 in
theorem gX3_init_X0_init_n24 : GoodIn wsX3_init (wsX0_init) := ggX3_init_X0_init
set_option maxRecDepth 20000 in
theorem ggX3_putHead_X1_tagAt : GoodIn wsX3_putHead wsX1_tagAt := goodIn_r2 cbX3_putHead_f _ [(1, 9), (1, 10), (1, 11), (1, 12), (1, 13), (1, 14), (1, 15), (1, 16), (1, 17), (1, 18), (1, 19), (1, 20), (1, 21), (1, 22), (1, 23), (2, 0), (2, 1), (2, 2), (2, 3), (2, 4), (2, 5), (2, 6), (7, 0), (7, 1), (7, 2), (7, 3), (7, 4), (7, 5), (7, 6), (7, 7), (8, 0), (8, 1), (10, 0), (10, 1)] rfl (by decide +kernel)
set_option maxRecDepth 20000 in
theorem gX3_putHead_X1_tagAt : GoodIn wsX3_putHead (wsV RX3 31 RX1 yX1_tagAt wsX1_tagAt) := goodIn_app (goodIn_of _ (by decide +kernel)) ggX3_putHead_X1_tagAt
set_option maxRecDepth 20000 in
theorem ggX3_putHead_X6_put : GoodIn wsX3_putHead wsX6_put := goodIn_r2 cbX3_putHead_f _ [(2, 10), (2, 6), (2, 5), (2, 11), (2, 12), (2, 13), (2, 14), (2, 15), (10, 0), (10, 1)] rfl (by decide +kernel)
set_option maxRecDepth 20000 in
theorem gX3_putHead_X6_put : GoodIn wsX3_putHead (wsV RX3 35 RX6 yX6_put wsX6_put) := goodIn_app (goodIn_of _ (by decide +kernel)) ggX3_putHead_X6_put
set_option maxRecDepth 20000 in
theorem ggX3_putHead_X6_putAll : GoodIn wsX3_putHead wsX6_putAll := goodIn_r2 cbX3_putHead_f _ [(2, 19), (2, 6), (2, 20), (2, 21), (2, 22), (1, 22), (2, 23), (2, 5), (3, 0), (2, 8), (2, 9), (2, 10), (2, 11), (2, 12), (2, 13), (2, 14), (2, 15), (10, 0), (10, 1)] rfl (by decide +kernel)
set_option maxRecDepth 20000 in
theorem gX3_putHead_X6_putAll : GoodIn wsX3_putHead (wsV RX3 47 RX6 yX6_putAll wsX6_putAll) := goodIn_app (goodIn_of _ (by decide +kernel)) ggX3_putHead_X6_putAll
set_option maxRecDepth 20000 in
theorem ggX3_putHead_X6_putText : GoodIn wsX3_putHead wsX6_putText := goodIn_r2 cbX3_putHead_f _ [(3, 4), (3, 5), (3, 6), (3, 7), (3, 8), (3, 9), (3, 10), (3, 11), (3, 12), (3, 13), (3, 14), (3, 15), (3, 16), (3, 17), (3, 18), (3, 19), (3, 20), (3, 21), (3, 22), (3, 23), (4, 0), (4, 1), (4, 2), (4, 3), (4, 4), (4, 5), (4, 6), (4, 7), (4, 8), (4, 9), (4, 10), (4, 11), (4, 12), (4, 13), (4, 14), (4, 15), (4, 16), (4, 17), (4, 18), (4, 19), (4, 20), (4, 21), (4, 22), (4, 23), (5, 0), (5, 1), (5, 2), (5, 3), (5, 4), (5, 5), (3, 0), (2, 8), (2, 9), (1, 22), (2, 10), (2, 6), (2, 5), (2, 11), (2, 12), (2, 13), (2, 14), (2, 15), (10, 0), (10, 1)] rfl (by decide +kernel)
set_option maxRecDepth 20000 in
theorem gX3_putHead_X6_putText : GoodIn wsX3_putHead (wsV RX3 53 RX6 yX6_putText wsX6_putText) := goodIn_app (goodIn_of _ (by decide +kernel)) ggX3_putHead_X6_putText
set_option maxRecDepth 20000 in
theorem ggX3_putHead_X3_putQuoted : GoodIn wsX3_putHead wsX3_putQuoted := goodIn_r2 cbX3_putHead_f _ [(5, 9), (5, 10), (5, 11), (5, 12), (1, 22), (5, 13), (2, 6), (5, 14), (2, 21), (2, 22), (2, 23), (2, 5), (2, 7), (2, 8), (2, 9), (2, 10), (2, 11), (2, 12), (2, 13), (2, 14), (2, 15), (10, 0), (10, 1)] rfl (by decide +kernel)
set_option maxRecDepth 20000 in
theorem gX3_putHead_X3_putQuoted : GoodIn wsX3_putHead (va_wsS RX3 60 yX3_putQuoted wsX3_putQuoted) := goodIn_app (goodIn_of _ (by decide +kernel)) ggX3_putHead_X3_putQuoted
set_option maxRecDepth 20000 in
theorem ggX3_putHead_X1_at : GoodIn wsX3_putHead wsX1_at := goodIn_r2 cbX3_putHead_f _ [(5, 18), (5, 19), (5, 20), (5, 21), (7, 0), (7, 1), (7, 2), (7, 3), (7, 4), (7, 5), (7, 6), (7, 7)] rfl (by decide +kernel)
set_option maxRecDepth 20000 in
theorem gX3_putHead_X1_at : GoodIn wsX3_putHead (wsV RX3 66 RX1 yX1_at wsX1_at) := goodIn_app (goodIn_of _ (by decide +kernel)) ggX3_putHead_X1_at
set_option maxRecDepth 20000 in
theorem ggX3_putHead_X3_putRemark : GoodIn wsX3_putHead wsX3_putRemark := goodIn_r2 cbX3_putHead_f _ [(6, 0), (6, 1), (5, 10), (5, 11), (5, 12), (1, 22), (5, 13), (2, 6), (6, 2), (6, 3), (5, 8), (6, 4), (5, 14), (2, 21), (2, 22), (2, 23), (2, 5), (2, 7), (2, 8), (2, 9), (2, 10), (2, 11), (2, 12), (2, 13), (2, 14), (2, 15), (2, 16), (2, 17), (2, 18), (2, 19), (2, 20), (3, 0), (11, 0), (11, 1), (11, 2), (11, 3), (11, 4), (11, 5), (11, 6), (10, 0), (10, 1)] rfl (by decide +kernel)
set_option maxRecDepth 20000 in
theorem gX3_putHead_X3_putRemark : GoodIn wsX3_putHead (va_wsS RX3 70 yX3_putRemark wsX3_putRemark) := goodIn_app (goodIn_of _ (by decide +kernel)) ggX3_putHead_X3_putRemark
set_option maxRecDepth 20000 in
theorem ggX3_putHead_X0_copyFrom : GoodIn wsX3_putHead wsX0_copyFrom := goodIn_r2 cbX3_putHead_f _ [(6, 9), (6, 10), (6, 11), (2, 13), (2, 14), (2, 15), (6, 12), (6, 13), (6, 14), (6, 15), (6, 16), (6, 17), (12, 0), (12, 1), (12, 2), (12, 3), (12, 4), (12, 5), (12, 6)] rfl (by decide +kernel)
set_option maxRecDepth 20000 in
theorem gX3_putHead_X0_copyFrom : GoodIn wsX3_putHead (wsV RX3 78 RX0 yX0_copyFrom wsX0_copyFrom) := goodIn_app (goodIn_of _ (by decide +kernel)) ggX3_putHead_X0_copyFrom
set_option maxRecDepth 20000 in
theorem ggX3_putQuoted_X6_size : GoodIn wsX3_putQuoted wsX6_size := goodIn_r _ [5, 6, 21, 22] rfl (by decide +kernel)
set_option maxRecDepth 20000 in
theorem gX3_putQuoted_X6_size : GoodIn wsX3_putQuoted (wsV RX3 82 RX6 yX6_size wsX6_size) := goodIn_app (goodIn_of _ (by decide +kernel)) ggX3_putQuoted_X6_size
set_option maxRecDepth 20000 in
theorem ggX3_putQuoted_X6_at : GoodIn wsX3_putQuoted wsX6_at := goodIn_r _ [10, 6, 11, 21, 22] rfl (by decide +kernel)
set_option maxRecDepth 20000 in
theorem gX3_putQuoted_X6_at : GoodIn wsX3_putQuoted (wsV RX3 86 RX6 yX6_at wsX6_at) := goodIn_app (goodIn_of _ (by decide +kernel)) ggX3_putQuoted_X6_at
set_option maxRecDepth 20000 in
theorem ggX3_putQuoted_X6_put : GoodIn wsX3_putQuoted wsX6_put := goodIn_r _ [15, 6, 11, 16, 17, 18, 19, 20, 21, 22] rfl (by decide +kernel)
set_option maxRecDepth 20000 in
theorem gX3_putQuoted_X6_put : GoodIn wsX3_putQuoted (wsV RX3 35 RX6 yX6_put wsX6_put) := goodIn_app (goodIn_of _ (by decide +kernel)) ggX3_putQuoted_X6_put
set_option maxRecDepth 20000 in
theorem ggX3_putEnd_X3_putGap : GoodIn wsX3_putEnd wsX3_putGap := goodIn_r2 cbX3_putEnd_f _ [(1, 4), (1, 5), (1, 6), (1, 7), (1, 8), (1, 9), (1, 10), (1, 11), (1, 12), (1, 13), (1, 14), (1, 15), (1, 16), (1, 17), (1, 18), (1, 19), (1, 20), (1, 21), (1, 22), (1, 23), (2, 0), (6, 0), (6, 1)] rfl (by decide +kernel)
set_option maxRecDepth 20000 in
theorem gX3_putEnd_X3_putGap : GoodIn wsX3_putEnd (va_wsS RX3 89 yX3_putGap wsX3_putGap) := goodIn_app (goodIn_of _ (by decide +kernel)) ggX3_putEnd_X3_putGap
set_option maxRecDepth 20000 in
theorem ggX3_putEnd_X11_resultSign : GoodIn wsX3_putEnd wsX11_resultSign := goodIn_r _ [28] rfl (by decide +kernel)
set_option maxRecDepth 20000 in
theorem gX3_putEnd_X11_resultSign_n95 : GoodIn wsX3_putEnd (wsX11_resultSign) := ggX3_putEnd_X11_resultSign
set_option maxRecDepth 20000 in
theorem ggX3_putEnd_X6_putText : GoodIn wsX3_putEnd wsX6_putText := goodIn_r2 cbX3_putEnd_f _ [(2, 7), (2, 8), (2, 9), (2, 10), (2, 11), (2, 12), (2, 13), (2, 14), (2, 15), (2, 16), (2, 17), (2, 18), (2, 19), (2, 20), (2, 21), (2, 22), (2, 23), (3, 0), (3, 1), (3, 2), (3, 3), (3, 4), (3, 5), (3, 6), (3, 7), (3, 8), (3, 9), (3, 10), (3, 11), (3, 12), (3, 13), (3, 14), (3, 15), (3, 16), (3, 17), (3, 18), (3, 19), (3, 20), (3, 21), (3, 22), (3, 23), (4, 0), (4, 1), (4, 2), (4, 3), (4, 4), (4, 5), (4, 6), (4, 7), (4, 8), (4, 9), (1, 17), (1, 18), (1, 8), (1, 19), (1, 10), (1, 15), (1, 20), (1, 21), (1, 22), (1, 23), (2, 0), (6, 0), (6, 1)] rfl (by decide +kernel)
set_option maxRecDepth 20000 in
theorem gX3_putEnd_X6_putText : GoodIn wsX3_putEnd (wsV RX3 53 RX6 yX6_putText wsX6_putText) := goodIn_app (goodIn_of _ (by decide +kernel)) ggX3_putEnd_X6_putText
set_option maxRecDepth 20000 in
theorem ggX3_putGap_X6_size : GoodIn wsX3_putGap wsX6_size := goodIn_r _ [5, 6, 21, 22] rfl (by decide +kernel)
set_option maxRecDepth 20000 in
theorem gX3_putGap_X6_size : GoodIn wsX3_putGap (wsV RX3 82 RX6 yX6_size wsX6_size) := goodIn_app (goodIn_of _ (by decide +kernel)) ggX3_putGap_X6_size
set_option maxRecDepth 20000 in
theorem ggX3_putGap_X6_at : GoodIn wsX3_putGap wsX6_at := goodIn_r _ [10, 6, 11, 21, 22] rfl (by decide +kernel)
set_option maxRecDepth 20000 in
theorem gX3_putGap_X6_at : GoodIn wsX3_putGap (wsV RX3 86 RX6 yX6_at wsX6_at) := goodIn_app (goodIn_of _ (by decide +kernel)) ggX3_putGap_X6_at
set_option maxRecDepth 20000 in
theorem ggX3_putGap_X6_put : GoodIn wsX3_putGap wsX6_put := goodIn_r _ [15, 6, 11, 16, 17, 18, 19, 20, 21, 22] rfl (by decide +kernel)
set_option maxRecDepth 20000 in
theorem gX3_putGap_X6_put : GoodIn wsX3_putGap (wsV RX3 35 RX6 yX6_put wsX6_put) := goodIn_app (goodIn_of _ (by decide +kernel)) ggX3_putGap_X6_put
set_option maxRecDepth 20000 in
theorem ggX3_putRemark_X6_size : GoodIn wsX3_putRemark wsX6_size := goodIn_r2 cbX3_putRemark_f _ [(1, 5), (1, 6), (4, 0), (4, 1)] rfl (by decide +kernel)
set_option maxRecDepth 20000 in
theorem gX3_putRemark_X6_size : GoodIn wsX3_putRemark (wsV RX3 82 RX6 yX6_size wsX6_size) := goodIn_app (goodIn_of _ (by decide +kernel)) ggX3_putRemark_X6_size
set_option maxRecDepth 20000 in
theorem ggX3_putRemark_X3_putGap : GoodIn wsX3_putRemark wsX3_putGap := goodIn_r2 cbX3_putRemark_f _ [(1, 10), (1, 1), (1, 2), (1, 3), (1, 4), (1, 5), (1, 6), (1, 11), (1, 12), (1, 13), (1, 14), (1, 15), (1, 16), (1, 17), (1, 18), (1, 19), (1, 20), (1, 21), (1, 22), (1, 23), (2, 0), (4, 0), (4, 1)] rfl (by decide +kernel)
set_option maxRecDepth 20000 in
theorem gX3_putRemark_X3_putGap : GoodIn wsX3_putRemark (va_wsS RX3 89 yX3_putGap wsX3_putGap) := goodIn_app (goodIn_of _ (by decide +kernel)) ggX3_putRemark_X3_putGap
set_option maxRecDepth 20000 in
theorem ggX3_putRemark_X6_put : GoodIn wsX3_putRemark wsX6_put := goodIn_r2 cbX3_putRemark_f _ [(1, 19), (1, 6), (1, 15), (1, 20), (1, 21), (1, 22), (1, 23), (2, 0), (4, 0), (4, 1)] rfl (by decide +kernel)
set_option maxRecDepth 20000 in
theorem gX3_putRemark_X6_put : GoodIn wsX3_putRemark (wsV RX3 35 RX6 yX6_put wsX6_put) := goodIn_app (goodIn_of _ (by decide +kernel)) ggX3_putRemark_X6_put
set_option maxRecDepth 20000 in
theorem ggX3_putRemark_X6_putAll : GoodIn wsX3_putRemark wsX6_putAll := goodIn_r2 cbX3_putRemark_f _ [(2, 4), (1, 6), (2, 5), (1, 12), (1, 13), (1, 4), (1, 14), (1, 15), (2, 6), (1, 17), (1, 18), (1, 19), (1, 20), (1, 21), (1, 22), (1, 23), (2, 0), (4, 0), (4, 1)] rfl (by decide +kernel)
set_option maxRecDepth 20000 in
theorem gX3_putRemark_X6_putAll : GoodIn wsX3_putRemark (wsV RX3 47 RX6 yX6_putAll wsX6_putAll) := goodIn_app (goodIn_of _ (by decide +kernel)) ggX3_putRemark_X6_putAll
set_option maxRecDepth 20000 in
theorem ggX3_putLine_X1_at : GoodIn wsX3_putLine wsX1_at := goodIn_r2 cbX3_putLine_f _ [(1, 9), (1, 10), (1, 11), (1, 12), (13, 0), (13, 1), (13, 2), (13, 3), (13, 4), (13, 5), (13, 6), (13, 7)] rfl (by decide +kernel)
set_option maxRecDepth 20000 in
theorem gX3_putLine_X1_at : GoodIn wsX3_putLine (wsV RX3 66 RX1 yX1_at wsX1_at) := goodIn_app (goodIn_of _ (by decide +kernel)) ggX3_putLine_X1_at
set_option maxRecDepth 20000 in
theorem ggX3_putLine_X3_putMove : GoodIn wsX3_putLine wsX3_putMove := goodIn_r2 cbX3_putLine_f _ [(1, 17), (1, 18), (1, 19), (1, 20), (1, 3), (1, 21), (1, 22), (1, 23), (1, 16), (2, 0), (2, 1), (2, 2), (2, 3), (2, 4), (2, 5), (2, 6), (2, 7), (2, 8), (2, 9), (2, 10), (2, 11), (2, 12), (2, 13), (2, 14), (2, 15), (2, 16), (2, 17), (2, 18), (2, 19), (2, 20), (2, 21), (2, 22), (2, 23), (3, 0), (3, 1), (3, 2), (3, 3), (3, 4), (3, 5), (3, 6), (3, 7), (3, 8), (3, 9), (3, 10), (3, 11), (3, 12), (3, 13), (3, 14), (3, 15), (3, 16), (3, 17), (3, 18), (3, 19), (3, 20), (3, 21), (3, 22), (3, 23), (4, 0), (4, 1), (4, 2), (4, 3), (4, 4), (4, 5), (4, 6), (4, 7), (4, 8), (4, 9), (4, 10), (4, 11), (4, 12), (4, 13), (4, 14), (4, 15), (4, 16), (4, 17), (4, 18), (4, 19), (4, 20), (4, 21), (4, 22), (4, 23), (5, 0), (5, 1), (5, 2), (5, 3), (5, 4), (5, 5), (5, 6), (5, 7), (5, 8), (5, 9), (5, 10), (5, 11), (5, 12), (5, 13), (5, 14), (5, 15), (5, 16), (5, 17), (5, 18), (5, 19), (5, 20), (5, 21), (5, 22), (5, 23), (6, 0), (6, 1), (6, 2), (6, 3), (6, 4), (6, 5), (6, 6), (6, 7), (6, 8), (6, 9), (6, 10), (6, 11), (6, 12), (6, 13), (6, 14), (6, 15), (6, 16), (6, 17), (6, 18), (6, 19), (6, 20), (6, 21), (6, 22), (6, 23), (7, 0), (7, 1), (7, 2), (7, 3), (7, 4), (7, 5), (7, 6), (7, 7), (7, 8), (7, 9), (7, 10), (7, 11), (7, 12), (7, 13), (7, 14), (7, 15), (7, 16), (7, 17), (7, 18), (7, 19), (7, 20), (7, 21), (7, 22), (7, 23), (8, 0), (8, 1), (8, 2), (8, 3), (8, 4), (8, 5), (8, 6), (8, 7), (8, 8), (8, 9), (8, 10), (8, 11), (8, 12), (8, 13), (8, 14), (8, 15), (8, 16), (8, 17), (8, 18), (8, 19), (8, 20), (8, 21), (8, 22), (8, 23), (9, 0), (9, 1), (9, 2), (9, 3), (9, 4), (9, 5), (9, 6), (9, 7), (9, 8), (9, 9), (9, 10), (9, 11), (9, 12), (9, 13), (9, 14), (9, 15), (9, 16), (9, 17), (9, 18), (9, 19), (9, 20), (9, 21), (1, 1), (9, 22), (9, 23), (10, 0), (10, 1), (10, 2), (14, 0), (14, 1), (14, 2), (14, 3), (14, 4), (14, 5), (14, 6), (11, 0), (11, 1), (12, 0), (12, 1), (12, 2), (12, 3), (12, 4), (12, 5), (12, 6), (15, 0), (15, 1), (16, 0), (17, 0), (17, 1)] rfl (by decide +kernel)
set_option maxRecDepth 20000 in
theorem gX3_putLine_X3_putMove : GoodIn wsX3_putLine (wsV RX3 104 RX3 yX3_putMove wsX3_putMove) := goodIn_app (goodIn_of _ (by decide +kernel)) ggX3_putLine_X3_putMove
set_option maxRecDepth 20000 in
theorem ggX3_putLine_X6_size : GoodIn wsX3_putLine wsX6_size := goodIn_r2 cbX3_putLine_f _ [(2, 5), (2, 6), (15, 0), (15, 1)] rfl (by decide +kernel)
set_option maxRecDepth 20000 in
theorem gX3_putLine_X6_size : GoodIn wsX3_putLine (wsV RX3 82 RX6 yX6_size wsX6_size) := goodIn_app (goodIn_of _ (by decide +kernel)) ggX3_putLine_X6_size
set_option maxRecDepth 20000 in
theorem ggX3_putLine_X1_goesOn : GoodIn wsX3_putLine wsX1_goesOn := goodIn_r2 cbX3_putLine_f _ [(10, 6), (10, 7), (10, 8), (10, 9), (1, 6), (1, 7), (1, 8), (1, 9), (1, 10), (1, 11), (1, 12), (12, 0), (12, 1), (12, 2), (12, 3), (12, 4), (12, 5), (12, 6), (13, 0), (13, 1), (13, 2), (13, 3), (13, 4), (13, 5), (13, 6), (13, 7)] rfl (by decide +kernel)
set_option maxRecDepth 20000 in
theorem gX3_putLine_X1_goesOn : GoodIn wsX3_putLine (wsV RX3 108 RX1 yX1_goesOn wsX1_goesOn) := goodIn_app (goodIn_of _ (by decide +kernel)) ggX3_putLine_X1_goesOn
set_option maxRecDepth 20000 in
theorem ggX3_putLine_X0_copyFrom : GoodIn wsX3_putLine wsX0_copyFrom := goodIn_r2 cbX3_putLine_f _ [(8, 2), (5, 18), (8, 3), (2, 18), (2, 19), (2, 20), (8, 4), (8, 5), (6, 19), (7, 10), (7, 0), (8, 6), (14, 0), (14, 1), (14, 2), (14, 3), (14, 4), (14, 5), (14, 6)] rfl (by decide +kernel)
set_option maxRecDepth 20000 in
theorem gX3_putLine_X0_copyFrom : GoodIn wsX3_putLine (wsV RX3 78 RX0 yX0_copyFrom wsX0_copyFrom) := goodIn_app (goodIn_of _ (by decide +kernel)) ggX3_putLine_X0_copyFrom
set_option maxRecDepth 20000 in
theorem ggX3_putLine_X3_putGap : GoodIn wsX3_putLine wsX3_putGap := goodIn_r2 cbX3_putLine_f _ [(2, 0), (2, 1), (2, 2), (2, 3), (2, 4), (2, 5), (2, 6), (2, 7), (2, 8), (2, 9), (2, 10), (2, 11), (2, 12), (2, 13), (2, 14), (2, 15), (2, 16), (2, 17), (2, 18), (2, 19), (2, 20), (15, 0), (15, 1)] rfl (by decide +kernel)
set_option maxRecDepth 20000 in
theorem gX3_putLine_X3_putGap : GoodIn wsX3_putLine (va_wsS RX3 89 yX3_putGap wsX3_putGap) := goodIn_app (goodIn_of _ (by decide +kernel)) ggX3_putLine_X3_putGap
set_option maxRecDepth 20000 in
theorem ggX3_putLine_X6_put : GoodIn wsX3_putLine wsX6_put := goodIn_r2 cbX3_putLine_f _ [(2, 15), (2, 6), (2, 11), (2, 16), (2, 17), (2, 18), (2, 19), (2, 20), (15, 0), (15, 1)] rfl (by decide +kernel)
set_option maxRecDepth 20000 in
theorem gX3_putLine_X6_put : GoodIn wsX3_putLine (wsV RX3 35 RX6 yX6_put wsX6_put) := goodIn_app (goodIn_of _ (by decide +kernel)) ggX3_putLine_X6_put
set_option maxRecDepth 20000 in
theorem ggX3_putLine_X3_putLine : GoodIn wsX3_putLine wsX3_putLine := goodIn_r2 cbX3_putLine_f _ [(0, 0), (1, 0), (1, 1), (1, 2), (1, 3), (1, 4), (1, 5), (1, 6), (1, 7), (1, 8), (1, 9), (1, 10), (1, 11), (1, 12), (1, 13), (1, 14), (1, 15), (1, 16), (1, 17), (1, 18), (1, 19), (1, 20), (1, 21), (1, 22), (1, 23), (2, 0), (2, 1), (2, 2), (2, 3), (2, 4), (2, 5), (2, 6), (2, 7), (2, 8), (2, 9), (2, 10), (2, 11), (2, 12), (2, 13), (2, 14), (2, 15), (2, 16), (2, 17), (2, 18), (2, 19), (2, 20), (2, 21), (2, 22), (2, 23), (3, 0), (3, 1), (3, 2), (3, 3), (3, 4), (3, 5), (3, 6), (3, 7), (3, 8), (3, 9), (3, 10), (3, 11), (3, 12), (3, 13), (3, 14), (3, 15), (3, 16), (3, 17), (3, 18), (3, 19), (3, 20), (3, 21), (3, 22), (3, 23), (4, 0), (4, 1), (4, 2), (4, 3), (4, 4), (4, 5), (4, 6), (4, 7), (4, 8), (4, 9), (4, 10), (4, 11), (4, 12), (4, 13), (4, 14), (4, 15), (4, 16), (4, 17), (4, 18), (4, 19), (4, 20), (4, 21), (4, 22), (4, 23), (5, 0), (5, 1), (5, 2), (5, 3), (5, 4), (5, 5), (5, 6), (5, 7), (5, 8), (5, 9), (5, 10), (5, 11), (5, 12), (5, 13), (5, 14), (5, 15), (5, 16), (5, 17), (5, 18), (5, 19), (5, 20), (5, 21), (5, 22), (5, 23), (6, 0), (6, 1), (6, 2), (6, 3), (6, 4), (6, 5), (6, 6), (6, 7), (6, 8), (6, 9), (6, 10), (6, 11), (6, 12), (6, 13), (6, 14), (6, 15), (6, 16), (6, 17), (6, 18), (6, 19), (6, 20), (6, 21), (6, 22), (6, 23), (7, 0), (7, 1), (7, 2), (7, 3), (7, 4), (7, 5), (7, 6), (7, 7), (7, 8), (7, 9), (7, 10), (7, 11), (7, 12), (7, 13), (7, 14), (7, 15), (7, 16), (7, 17), (7, 18), (7, 19), (7, 20), (7, 21), (7, 22), (7, 23), (8, 0), (8, 1), (8, 2), (8, 3), (8, 4), (8, 5), (8, 6), (8, 7), (8, 8), (8, 9), (8, 10), (8, 11), (8, 12), (8, 13), (8, 14), (8, 15), (8, 16), (8, 17), (8, 18), (8, 19), (8, 20), (8, 21), (8, 22), (8, 23), (9, 0), (9, 1), (9, 2), (9, 3), (9, 4), (9, 5), (9, 6), (9, 7), (9, 8), (9, 9), (9, 10), (9, 11), (9, 12), (9, 13), (9, 14), (9, 15), (9, 16), (9, 17), (9, 18), (9, 19), (9, 20), (9, 21), (9, 22), (9, 23), (10, 0), (10, 1), (10, 2), (10, 3), (10, 4), (10, 5), (10, 6), (10, 7), (10, 8), (10, 9), (10, 10), (10, 11), (10, 12), (10, 13), (10, 14), (11, 0), (11, 1), (12, 0), (12, 1), (12, 2), (12, 3), (12, 4), (12, 5), (12, 6), (13, 0), (13, 1), (13, 2), (13, 3), (13, 4), (13, 5), (13, 6), (13, 7), (14, 0), (14, 1), (14, 2), (14, 3), (14, 4), (14, 5), (14, 6), (15, 0), (15, 1), (16, 0), (17, 0), (17, 1)] rfl (by decide +kernel)
set_option maxRecDepth 20000 in
theorem gX3_putLine_X3_putLine : GoodIn wsX3_putLine (wsV RX3 115 RX3 yX3_putLine wsX3_putLine) := goodIn_app (goodIn_of _ (by decide +kernel)) ggX3_putLine_X3_putLine
set_option maxRecDepth 20000 in
theorem ggX3_putLine_X0_play : GoodIn wsX3_putLine wsX0_play := goodIn_r2 cbX3_putLine_f _ [(8, 10), (7, 0), (5, 18), (6, 19), (7, 10), (8, 6), (6, 0), (6, 1), (6, 2), (5, 16), (6, 3), (7, 5), (5, 14), (5, 15), (5, 17), (8, 11), (8, 12), (8, 13), (8, 14), (8, 4), (8, 5), (8, 15), (8, 16), (8, 17), (8, 18), (8, 19), (8, 20), (8, 21), (14, 0), (14, 1), (14, 2), (14, 3), (14, 4), (14, 5), (14, 6)] rfl (by decide +kernel)
set_option maxRecDepth 20000 in
theorem gX3_putLine_X0_play : GoodIn wsX3_putLine (wsV RX3 122 RX0 yX0_play wsX0_play) := goodIn_app (goodIn_of _ (by decide +kernel)) ggX3_putLine_X0_play
set_option maxRecDepth 20000 in
theorem ggX3_putMove_X3_putGap : GoodIn wsX3_putMove wsX3_putGap := goodIn_r2 cbX3_putMove_f _ [(1, 8), (1, 9), (1, 10), (1, 11), (1, 12), (1, 13), (1, 14), (1, 15), (1, 16), (1, 17), (1, 18), (1, 19), (1, 20), (1, 21), (1, 22), (1, 23), (2, 0), (2, 1), (2, 2), (2, 3), (2, 4), (13, 0), (13, 1)] rfl (by decide +kernel)
set_option maxRecDepth 20000 in
theorem gX3_putMove_X3_putGap : GoodIn wsX3_putMove (va_wsS RX3 89 yX3_putGap wsX3_putGap) := goodIn_app (goodIn_of _ (by decide +kernel)) ggX3_putMove_X3_putGap
set_option maxRecDepth 20000 in
theorem ggX3_putMove_X6_putNumber : GoodIn wsX3_putMove wsX6_putNumber := goodIn_r2 cbX3_putMove_f _ [(2, 8), (2, 9), (1, 21), (1, 22), (1, 12), (1, 23), (1, 14), (1, 19), (2, 0), (2, 1), (2, 2), (2, 3), (2, 4), (13, 0), (13, 1)] rfl (by decide +kernel)
set_option maxRecDepth 20000 in
theorem gX3_putMove_X6_putNumber : GoodIn wsX3_putMove (wsV RX3 135 RX6 yX6_putNumber wsX6_putNumber) := goodIn_app (goodIn_of _ (by decide +kernel)) ggX3_putMove_X6_putNumber
set_option maxRecDepth 20000 in
theorem ggX3_putMove_X6_putText : GoodIn wsX3_putMove wsX6_putText := goodIn_r2 cbX3_putMove_f _ [(2, 13), (2, 14), (2, 15), (2, 16), (2, 17), (2, 18), (2, 19), (2, 20), (2, 21), (2, 22), (2, 23), (3, 0), (3, 1), (3, 2), (3, 3), (3, 4), (3, 5), (3, 6), (3, 7), (3, 8), (3, 9), (3, 10), (3, 11), (3, 12), (3, 13), (3, 14), (3, 15), (3, 16), (3, 17), (3, 18), (3, 19), (3, 20), (3, 21), (3, 22), (3, 23), (4, 0), (4, 1), (4, 2), (4, 3), (4, 4), (4, 5), (4, 6), (4, 7), (4, 8), (4, 9), (4, 10), (4, 11), (4, 12), (4, 13), (4, 14), (2, 9), (1, 21), (1, 22), (1, 12), (1, 23), (1, 14), (1, 19), (2, 0), (2, 1), (2, 2), (2, 3), (2, 4), (13, 0), (13, 1)] rfl (by decide +kernel)
set_option maxRecDepth 20000 in
theorem gX3_putMove_X6_putText : GoodIn wsX3_putMove (wsV RX3 53 RX6 yX6_putText wsX6_putText) := goodIn_app (goodIn_of _ (by decide +kernel)) ggX3_putMove_X6_putText
set_option maxRecDepth 20000 in
theorem ggX3_putMove_X9_putSigns : GoodIn wsX3_putMove wsX9_putSigns := goodIn_r2 cbX3_putMove_f _ [(4, 19), (4, 20), (4, 21), (4, 22), (4, 23), (5, 0), (5, 1), (5, 2), (5, 3), (2, 11), (2, 12), (1, 12), (2, 13), (2, 14), (2, 15), (2, 16), (2, 17), (2, 18), (2, 19), (2, 20), (2, 21), (2, 22), (2, 23), (3, 0), (3, 1), (3, 2), (3, 3), (3, 4), (3, 5), (3, 6), (3, 7), (3, 8), (3, 9), (3, 10), (3, 11), (3, 12), (3, 13), (3, 14), (3, 15), (3, 16), (3, 17), (3, 18), (3, 19), (3, 20), (3, 21), (3, 22), (3, 23), (4, 0), (4, 1), (4, 2), (4, 3), (4, 4), (4, 5), (4, 6), (4, 7), (4, 8), (4, 9), (4, 10), (4, 11), (4, 12), (4, 13), (4, 14), (2, 9), (1, 21), (1, 22), (1, 23), (1, 14), (1, 19), (2, 0), (2, 1), (2, 2), (2, 3), (2, 4), (5, 4), (5, 5), (5, 6), (5, 7), (5, 8), (5, 9), (5, 10), (5, 11), (5, 12), (5, 13), (5, 14), (5, 15), (5, 16), (5, 17), (5, 18), (5, 19), (5, 20), (4, 18), (5, 21), (5, 22), (5, 23), (6, 0), (6, 1), (6, 2), (6, 3), (6, 4), (6, 5), (6, 6), (6, 7), (6, 8), (6, 9), (6, 10), (6, 11), (6, 12), (6, 13), (6, 14), (6, 15), (6, 16), (6, 17), (6, 18), (6, 19), (6, 20), (6, 21), (6, 22), (6, 23), (7, 0), (7, 1), (7, 2), (7, 3), (7, 4), (7, 5), (7, 6), (7, 7), (7, 8), (7, 9), (7, 10), (7, 11), (7, 12), (7, 13), (7, 14), (7, 15), (7, 16), (7, 17), (7, 18), (7, 19), (7, 20), (7, 21), (7, 22), (7, 23), (8, 0), (8, 1), (8, 2), (8, 3), (8, 4), (8, 5), (8, 6), (8, 7), (8, 8), (8, 9), (8, 10), (8, 11), (8, 12), (8, 13), (8, 14), (8, 15), (8, 16), (8, 17), (8, 18), (8, 19), (8, 20), (14, 0), (10, 0), (10, 1), (10, 2), (10, 3), (10, 4), (10, 5), (10, 6), (13, 0), (13, 1), (15, 0), (15, 1)] rfl (by decide +kernel)
set_option maxRecDepth 20000 in
theorem gX3_putMove_X9_putSigns : GoodIn wsX3_putMove (wsV RX3 142 RX9 yX9_putSigns wsX9_putSigns) := goodIn_app (goodIn_of _ (by decide +kernel)) ggX3_putMove_X9_putSigns
set_option maxRecDepth 20000 in
theorem ggX3_putMove_X6_put : GoodIn wsX3_putMove wsX6_put := goodIn_r2 cbX3_putMove_f _ [(1, 23), (1, 14), (1, 19), (2, 0), (2, 1), (2, 2), (2, 3), (2, 4), (13, 0), (13, 1)] rfl (by decide +kernel)
set_option maxRecDepth 20000 in
theorem gX3_putMove_X6_put : GoodIn wsX3_putMove (wsV RX3 35 RX6 yX6_put wsX6_put) := goodIn_app (goodIn_of _ (by decide +kernel)) ggX3_putMove_X6_put
set_option maxRecDepth 20000 in
theorem ggX3_putMove_X4_markAt : GoodIn wsX3_putMove wsX4_markAt := goodIn_r2 cbX3_putMove_f _ [(9, 1), (9, 2), (12, 0), (12, 1), (12, 2), (12, 3), (12, 4), (12, 5), (12, 6)] rfl (by decide +kernel)
set_option maxRecDepth 20000 in
theorem gX3_putMove_X4_markAt : GoodIn wsX3_putMove (wsV RX3 149 RX4 yX4_markAt wsX4_markAt) := goodIn_app (goodIn_of _ (by decide +kernel)) ggX3_putMove_X4_markAt
set_option maxRecDepth 20000 in
theorem ggX3_putMove_X3_putRemark : GoodIn wsX3_putMove wsX3_putRemark := goodIn_r2 cbX3_putMove_f _ [(9, 5), (9, 6), (1, 9), (1, 10), (1, 11), (1, 12), (1, 13), (1, 14), (1, 5), (1, 6), (1, 7), (1, 8), (1, 15), (1, 16), (1, 17), (1, 18), (1, 19), (1, 20), (1, 21), (1, 22), (1, 23), (2, 0), (2, 1), (2, 2), (2, 3), (2, 4), (9, 7), (9, 8), (9, 9), (9, 10), (9, 11), (2, 9), (12, 0), (12, 1), (12, 2), (12, 3), (12, 4), (12, 5), (12, 6), (13, 0), (13, 1)] rfl (by decide +kernel)
set_option maxRecDepth 20000 in
theorem gX3_putMove_X3_putRemark : GoodIn wsX3_putMove (va_wsS RX3 70 yX3_putRemark wsX3_putRemark) := goodIn_app (goodIn_of _ (by decide +kernel)) ggX3_putMove_X3_putRemark
end
section
set_option maxRecDepth 20000 in
theorem ggX4_init_X6_init : GoodIn wsX4_init wsX6_init := goodIn_r _ [15, 16, 2, 3, 17, 18, 19, 27, 28] rfl (by decide +kernel)
set_option maxRecDepth 20000 in
theorem gX4_init_X6_init_n32 : GoodIn wsX4_init (wsX6_init) := ggX4_init_X6_init
set_option maxRecDepth 20000 in
theorem ggX4_become_X6_keep : GoodIn wsX4_become wsX6_keep := goodIn_r _ [12, 13, 21, 22] rfl (by decide +kernel)
set_option maxRecDepth 20000 in
theorem gX4_become_X6_keep : GoodIn wsX4_become (wsV RX4 37 RX6 yX6_keep wsX6_keep) := goodIn_app (goodIn_of _ (by decide +kernel)) ggX4_become_X6_keep
set_option maxRecDepth 20000 in
theorem ggX4_joinRemark_X6_size : GoodIn wsX4_joinRemark wsX6_size := goodIn_r _ [6, 7, 29, 30] rfl (by decide +kernel)
set_option maxRecDepth 20000 in
theorem gX4_joinRemark_X6_size : GoodIn wsX4_joinRemark (wsV RX4 41 RX6 yX6_size wsX6_size) := goodIn_app (goodIn_of _ (by decide +kernel)) ggX4_joinRemark_X6_size
set_option maxRecDepth 20000 in
theorem ggX4_joinRemark_X6_put : GoodIn wsX4_joinRemark wsX6_put := goodIn_r _ [11, 7, 12, 13, 14, 15, 16, 17, 29, 30] rfl (by decide +kernel)
set_option maxRecDepth 20000 in
theorem gX4_joinRemark_X6_put : GoodIn wsX4_joinRemark (wsV RX4 45 RX6 yX6_put wsX6_put) := goodIn_app (goodIn_of _ (by decide +kernel)) ggX4_joinRemark_X6_put
set_option maxRecDepth 20000 in
theorem ggX4_joinRemark_X6_at : GoodIn wsX4_joinRemark wsX6_at := goodIn_r _ [21, 7, 12, 29, 30] rfl (by decide +kernel)
set_option maxRecDepth 20000 in
theorem gX4_joinRemark_X6_at : GoodIn wsX4_joinRemark (wsV RX4 49 RX6 yX6_at wsX6_at) := goodIn_app (goodIn_of _ (by decide +kernel)) ggX4_joinRemark_X6_at
end
section
set_option maxRecDepth 20000 in
theorem ggX5_init_X6_init : GoodIn wsX5_init wsX6_init := goodIn_r _ [10, 11, 2, 3, 12, 13, 14, 15, 16] rfl (by decide +kernel)
set_option maxRecDepth 20000 in
theorem gX5_init_X6_init_n11 : GoodIn wsX5_init (wsX6_init) := ggX5_init_X6_init
set_option maxRecDepth 20000 in
theorem ggX5_readInto_X0_wipe : GoodIn wsX5_readInto wsX0_wipe := goodIn_r2 cbX5_readInto_f _ [(1, 6), (1, 7), (1, 8), (1, 9), (1, 10), (1, 11), (12, 0), (12, 1), (12, 2), (12, 3), (12, 4), (12, 5), (12, 6)] rfl (by decide +kernel)
set_option maxRecDepth 20000 in
theorem gX5_readInto_X0_wipe : GoodIn wsX5_readInto (wsV RX5 22 RX0 yX0_wipe wsX0_wipe) := goodIn_app (goodIn_of _ (by decide +kernel)) ggX5_readInto_X0_wipe
set_option maxRecDepth 20000 in
theorem ggX5_readInto_X5_readMen : GoodIn wsX5_readInto wsX5_readMen := goodIn_r2 cbX5_readInto_f _ [(1, 16), (1, 17), (1, 18), (1, 19), (1, 15), (1, 20), (1, 0), (1, 1), (1, 21), (1, 22), (1, 23), (2, 0), (2, 1), (2, 2), (2, 3), (2, 4), (2, 5), (2, 6), (2, 7), (2, 8), (2, 9), (2, 10), (2, 11), (2, 12), (2, 13), (2, 14), (2, 15), (2, 16), (2, 17), (2, 18), (2, 19), (2, 20), (2, 21), (2, 22), (2, 23), (3, 0), (3, 1), (3, 2), (3, 3), (3, 4), (3, 5), (3, 6), (3, 7), (3, 8), (3, 9), (3, 10), (3, 11), (3, 12), (3, 13), (3, 14), (3, 15), (3, 16), (3, 17), (3, 18), (3, 19), (3, 20), (3, 21), (3, 22), (3, 23), (4, 0), (4, 1), (4, 2), (4, 3), (4, 4), (4, 5), (4, 6), (4, 7), (4, 8), (4, 9), (4, 10), (4, 11), (4, 12), (4, 13), (4, 14), (4, 15), (4, 16), (4, 17), (4, 18), (4, 19), (4, 20), (4, 21), (4, 22), (4, 23), (5, 0), (5, 1), (5, 2), (5, 3), (5, 4), (5, 5), (5, 6), (5, 7), (5, 8), (5, 9), (5, 10), (5, 11), (5, 12), (5, 13), (5, 14), (5, 15), (5, 16), (5, 17), (5, 18), (5, 19), (5, 20), (5, 21), (5, 22), (5, 23), (6, 0), (6, 1), (6, 2), (6, 3), (6, 4), (6, 5), (6, 6), (6, 7), (6, 8), (1, 5), (6, 9), (1, 7), (6, 10), (6, 11), (11, 0), (11, 1), (13, 0), (13, 1), (12, 0), (12, 1), (12, 2), (12, 3), (12, 4), (12, 5), (12, 6)] rfl (by decide +kernel)
set_option maxRecDepth 20000 in
theorem gX5_readInto_X5_readMen : GoodIn wsX5_readInto (wsV RX5 27 RX5 yX5_readMen wsX5_readMen) := goodIn_app (goodIn_of _ (by decide +kernel)) ggX5_readInto_X5_readMen
set_option maxRecDepth 20000 in
theorem ggX5_readInto_X5_skip : GoodIn wsX5_readInto wsX5_skip := goodIn_r2 cbX5_readInto_f _ [(1, 20), (1, 0), (1, 1), (1, 21), (1, 22), (1, 23), (2, 0), (2, 1), (2, 2), (2, 3), (11, 0), (11, 1), (13, 0), (13, 1)] rfl (by decide +kernel)
set_option maxRecDepth 20000 in
theorem gX5_readInto_X5_skip : GoodIn wsX5_readInto (wsV RX5 31 RX5 yX5_skip wsX5_skip) := goodIn_app (goodIn_of _ (by decide +kernel)) ggX5_readInto_X5_skip
set_option maxRecDepth 20000 in
theorem ggX5_readInto_X5_readSide : GoodIn wsX5_readInto wsX5_readSide := goodIn_r2 cbX5_readInto_f _ [(6, 15), (1, 0), (1, 1), (6, 16), (1, 21), (1, 22), (1, 23), (2, 0), (2, 1), (2, 2), (2, 3), (1, 17), (1, 18), (1, 19), (1, 15), (1, 20), (11, 0), (11, 1), (12, 0), (12, 1), (12, 2), (12, 3), (12, 4), (12, 5), (12, 6), (13, 0), (13, 1)] rfl (by decide +kernel)
set_option maxRecDepth 20000 in
theorem gX5_readInto_X5_readSide : GoodIn wsX5_readInto (wsV RX5 35 RX5 yX5_readSide wsX5_readSide) := goodIn_app (goodIn_of _ (by decide +kernel)) ggX5_readInto_X5_readSide
set_option maxRecDepth 20000 in
theorem ggX5_readInto_X5_readRights : GoodIn wsX5_readInto wsX5_readRights := goodIn_r2 cbX5_readInto_f _ [(6, 20), (6, 21), (1, 17), (1, 18), (1, 19), (1, 15), (1, 20), (1, 0), (1, 1), (1, 21), (1, 22), (1, 23), (2, 0), (2, 1), (2, 2), (2, 3), (6, 22), (3, 6), (3, 7), (2, 16), (3, 8), (2, 22), (3, 9), (3, 10), (3, 11), (3, 12), (3, 3), (3, 4), (6, 23), (7, 0), (7, 1), (7, 2), (2, 23), (3, 0), (3, 1), (3, 2), (7, 3), (7, 4), (3, 15), (7, 5), (7, 6), (7, 7), (7, 8), (5, 1), (7, 9), (7, 10), (5, 4), (7, 11), (7, 12), (7, 13), (4, 8), (7, 14), (7, 15), (7, 16), (7, 17), (4, 19), (4, 20), (4, 21), (7, 18), (5, 9), (5, 10), (5, 11), (5, 12), (5, 13), (5, 14), (12, 0), (12, 1), (12, 2), (12, 3), (12, 4), (12, 5), (12, 6), (11, 0), (11, 1), (13, 0), (13, 1)] rfl (by decide +kernel)
set_option maxRecDepth 20000 in
theorem gX5_readInto_X5_readRights : GoodIn wsX5_readInto (wsV RX5 38 RX5 yX5_readRights wsX5_readRights) := goodIn_app (goodIn_of _ (by decide +kernel)) ggX5_readInto_X5_readRights
set_option maxRecDepth 20000 in
theorem ggX5_readInto_X5_readPassed : GoodIn wsX5_readInto wsX5_readPassed := goodIn_r2 cbX5_readInto_f _ [(7, 22), (1, 0), (1, 1), (7, 23), (1, 17), (1, 18), (1, 19), (1, 15), (1, 20), (1, 21), (1, 22), (1, 23), (2, 0), (2, 1), (2, 2), (2, 3), (8, 0), (2, 9), (8, 1), (8, 2), (8, 3), (8, 4), (8, 5), (2, 8), (2, 10), (11, 0), (11, 1), (12, 0), (12, 1), (12, 2), (12, 3), (12, 4), (12, 5), (12, 6), (13, 0), (13, 1)] rfl (by decide +kernel)
set_option maxRecDepth 20000 in
theorem gX5_readInto_X5_readPassed : GoodIn wsX5_readInto (wsV RX5 41 RX5 yX5_readPassed wsX5_readPassed) := goodIn_app (goodIn_of _ (by decide +kernel)) ggX5_readInto_X5_readPassed
set_option maxRecDepth 20000 in
theorem ggX5_readInto_X5_readNumber : GoodIn wsX5_readInto wsX5_readNumber := goodIn_r2 cbX5_readInto_f _ [(8, 9), (1, 1), (1, 0), (1, 21), (1, 22), (1, 23), (2, 0), (2, 1), (2, 2), (2, 3), (8, 10), (2, 9), (8, 11), (11, 0), (11, 1), (13, 0), (13, 1)] rfl (by decide +kernel)
set_option maxRecDepth 20000 in
theorem gX5_readInto_X5_readNumber : GoodIn wsX5_readInto (wsV RX5 44 RX5 yX5_readNumber wsX5_readNumber) := goodIn_app (goodIn_of _ (by decide +kernel)) ggX5_readInto_X5_readNumber
set_option maxRecDepth 20000 in
theorem ggX5_readInto_X5_readMoveNumber : GoodIn wsX5_readInto wsX5_readMoveNumber := goodIn_r2 cbX5_readInto_f _ [(8, 15), (8, 16), (8, 6), (8, 7), (8, 8), (1, 15), (8, 9), (1, 1), (1, 0), (1, 21), (1, 22), (1, 23), (2, 0), (2, 1), (2, 2), (2, 3), (8, 10), (2, 9), (8, 11), (12, 0), (12, 1), (12, 2), (12, 3), (12, 4), (12, 5), (12, 6), (11, 0), (11, 1), (13, 0), (13, 1)] rfl (by decide +kernel)
set_option maxRecDepth 20000 in
theorem gX5_readInto_X5_readMoveNumber : GoodIn wsX5_readInto (wsV RX5 48 RX5 yX5_readMoveNumber wsX5_readMoveNumber) := goodIn_app (goodIn_of _ (by decide +kernel)) ggX5_readInto_X5_readMoveNumber
set_option maxRecDepth 20000 in
theorem ggX5_readInto_X6_size : GoodIn wsX5_readInto wsX6_size := goodIn_r2 cbX5_readInto_f _ [(8, 20), (2, 2), (13, 0), (13, 1)] rfl (by decide +kernel)
set_option maxRecDepth 20000 in
theorem gX5_readInto_X6_size : GoodIn wsX5_readInto (wsV RX5 51 RX6 yX6_size wsX6_size) := goodIn_app (goodIn_of _ (by decide +kernel)) ggX5_readInto_X6_size
set_option maxRecDepth 20000 in
theorem ggX5_readInto_X5_hasSoundMen : GoodIn wsX5_readInto wsX5_hasSoundMen := goodIn_r2 cbX5_readInto_f _ [(8, 23), (9, 0), (6, 16), (9, 1), (9, 2), (9, 3), (1, 5), (9, 4), (1, 7), (9, 5), (9, 6), (9, 7), (9, 8), (6, 10), (6, 11), (9, 9), (9, 10), (9, 11), (9, 12), (9, 13), (9, 14), (9, 15), (9, 16), (12, 0), (12, 1), (12, 2), (12, 3), (12, 4), (12, 5), (12, 6)] rfl (by decide +kernel)
set_option maxRecDepth 20000 in
theorem gX5_readInto_X5_hasSoundMen : GoodIn wsX5_readInto (va_wsS RX5 54 yX5_hasSoundMen wsX5_hasSoundMen) := goodIn_app (goodIn_of _ (by decide +kernel)) ggX5_readInto_X5_hasSoundMen
set_option maxRecDepth 20000 in
theorem ggX5_readInto_X5_hasSoundRights : GoodIn wsX5_readInto wsX5_hasSoundRights := goodIn_r2 cbX5_readInto_f _ [(9, 19), (6, 21), (9, 0), (6, 22), (3, 6), (3, 7), (2, 16), (3, 8), (2, 22), (3, 9), (3, 10), (3, 11), (3, 12), (3, 3), (3, 4), (12, 0), (12, 1), (12, 2), (12, 3), (12, 4), (12, 5), (12, 6)] rfl (by decide +kernel)
set_option maxRecDepth 20000 in
theorem gX5_readInto_X5_hasSoundRights : GoodIn wsX5_readInto (va_wsS RX5 57 yX5_hasSoundRights wsX5_hasSoundRights) := goodIn_app (goodIn_of _ (by decide +kernel)) ggX5_readInto_X5_hasSoundRights
set_option maxRecDepth 20000 in
theorem ggX5_readInto_X5_hasSoundPassed : GoodIn wsX5_readInto wsX5_hasSoundPassed := goodIn_r2 cbX5_readInto_f _ [(9, 22), (7, 23), (6, 16), (9, 0), (9, 23), (10, 0), (10, 1), (1, 5), (10, 2), (1, 7), (12, 0), (12, 1), (12, 2), (12, 3), (12, 4), (12, 5), (12, 6)] rfl (by decide +kernel)
set_option maxRecDepth 20000 in
theorem gX5_readInto_X5_hasSoundPassed : GoodIn wsX5_readInto (va_wsS RX5 60 yX5_hasSoundPassed wsX5_hasSoundPassed) := goodIn_app (goodIn_of _ (by decide +kernel)) ggX5_readInto_X5_hasSoundPassed
set_option maxRecDepth 20000 in
theorem ggX5_skip_X6_at : GoodIn wsX5_skip wsX6_at := goodIn_r _ [7, 8, 9, 12, 13] rfl (by decide +kernel)
set_option maxRecDepth 20000 in
theorem gX5_skip_X6_at : GoodIn wsX5_skip (wsV RX5 63 RX6 yX6_at wsX6_at) := goodIn_app (goodIn_of _ (by decide +kernel)) ggX5_skip_X6_at
set_option maxRecDepth 20000 in
theorem ggX5_readMen_X5_skip : GoodIn wsX5_readMen wsX5_skip := goodIn_r2 cbX5_readMen_f _ [(1, 4), (1, 5), (1, 6), (1, 7), (1, 8), (1, 9), (1, 10), (1, 11), (1, 12), (1, 13), (6, 0), (6, 1), (7, 0), (7, 1)] rfl (by decide +kernel)
set_option maxRecDepth 20000 in
theorem gX5_readMen_X5_skip : GoodIn wsX5_readMen (wsV RX5 31 RX5 yX5_skip wsX5_skip) := goodIn_app (goodIn_of _ (by decide +kernel)) ggX5_readMen_X5_skip
set_option maxRecDepth 20000 in
theorem ggX5_readMen_X5_readRank : GoodIn wsX5_readMen wsX5_readRank := goodIn_r2 cbX5_readMen_f _ [(1, 17), (1, 5), (1, 6), (1, 7), (1, 8), (1, 9), (1, 10), (1, 11), (1, 12), (1, 13), (1, 18), (1, 19), (1, 20), (1, 21), (1, 22), (1, 23), (2, 0), (2, 1), (2, 2), (2, 3), (2, 4), (2, 5), (2, 6), (2, 7), (2, 8), (2, 9), (2, 10), (2, 11), (2, 12), (2, 13), (2, 14), (2, 15), (2, 16), (2, 17), (2, 18), (2, 19), (2, 20), (2, 21), (2, 22), (2, 23), (3, 0), (3, 1), (3, 2), (3, 3), (3, 4), (3, 5), (3, 6), (3, 7), (3, 8), (3, 9), (3, 10), (3, 11), (3, 12), (3, 13), (3, 14), (3, 15), (3, 16), (3, 17), (3, 18), (3, 19), (3, 20), (3, 21), (3, 22), (3, 23), (4, 0), (4, 1), (4, 2), (4, 3), (4, 4), (4, 5), (4, 6), (4, 7), (4, 8), (4, 9), (4, 10), (4, 11), (4, 12), (4, 13), (4, 14), (4, 15), (4, 16), (4, 17), (4, 18), (4, 19), (4, 20), (4, 21), (4, 22), (4, 23), (5, 0), (5, 1), (5, 2), (5, 3), (5, 4), (5, 5), (5, 6), (5, 7), (5, 8), (5, 9), (5, 10), (5, 11), (5, 12), (5, 13), (5, 14), (5, 15), (5, 16), (5, 17), (5, 18), (5, 19), (5, 20), (5, 21), (5, 22), (5, 23), (6, 0), (6, 1), (7, 0), (7, 1), (8, 0), (8, 1), (8, 2), (8, 3), (8, 4), (8, 5), (8, 6)] rfl (by decide +kernel)
set_option maxRecDepth 20000 in
theorem gX5_readMen_X5_readRank : GoodIn wsX5_readMen (wsV RX5 66 RX5 yX5_readRank wsX5_readRank) := goodIn_app (goodIn_of _ (by decide +kernel)) ggX5_readMen_X5_readRank
set_option maxRecDepth 20000 in
theorem ggX5_readRank_X6_at : GoodIn wsX5_readRank wsX6_at := goodIn_r2 cbX5_readRank_f _ [(1, 6), (1, 7), (1, 8), (7, 0), (7, 1)] rfl (by decide +kernel)
set_option maxRecDepth 20000 in
theorem gX5_readRank_X6_at : GoodIn wsX5_readRank (wsV RX5 63 RX6 yX6_at wsX6_at) := goodIn_app (goodIn_of _ (by decide +kernel)) ggX5_readRank_X6_at
set_option maxRecDepth 20000 in
theorem ggX5_readRank_X11_isRank : GoodIn wsX5_readRank wsX11_isRank := goodIn_r _ [12] rfl (by decide +kernel)
set_option maxRecDepth 20000 in
theorem gX5_readRank_X11_isRank_n70 : GoodIn wsX5_readRank (wsX11_isRank) := ggX5_readRank_X11_isRank
set_option maxRecDepth 20000 in
theorem ggX5_readRank_X11_isLetter : GoodIn wsX5_readRank wsX11_isLetter := goodIn_r _ [14] rfl (by decide +kernel)
set_option maxRecDepth 20000 in
theorem gX5_readRank_X11_isLetter_n73 : GoodIn wsX5_readRank (wsX11_isLetter) := ggX5_readRank_X11_isLetter
set_option maxRecDepth 20000 in
theorem ggX5_readRank_J0_indexOf_0f7a4 : GoodIn wsX5_readRank wsJ0_indexOf_0f7a4 := goodIn_r2 cbX5_readRank_f _ [(1, 18), (1, 19), (1, 20), (1, 21), (1, 17), (1, 22), (1, 23), (2, 0), (2, 1), (2, 2), (2, 3), (2, 4), (2, 5), (2, 6), (2, 7), (2, 8), (2, 9), (2, 10), (2, 11), (2, 12), (2, 13), (2, 14), (2, 15), (2, 16), (2, 17), (2, 18), (2, 19), (2, 20), (2, 21), (2, 22), (2, 23), (3, 0), (3, 1), (3, 2), (3, 3), (3, 4), (3, 5), (3, 6), (3, 7), (3, 8), (3, 9), (3, 10), (3, 11), (3, 12), (3, 13), (3, 14), (3, 15), (3, 16), (3, 17), (3, 18), (3, 19), (3, 20), (3, 21), (3, 22), (3, 23), (4, 0), (4, 1), (4, 2), (4, 3), (4, 4), (4, 5), (4, 6), (4, 7), (4, 8), (4, 9), (4, 10), (4, 11), (4, 12), (4, 13), (4, 14), (4, 15), (4, 16), (4, 17), (4, 18), (4, 19), (4, 20), (4, 21), (4, 22), (4, 23), (5, 0), (5, 1), (5, 2), (5, 3), (5, 4), (5, 5), (5, 6)] rfl (by decide +kernel)
set_option maxRecDepth 20000 in
theorem gX5_readRank_J0_indexOf_0f7a4 : GoodIn wsX5_readRank (wsV RX5 78 RJ0 yJ0_indexOf_0f7a4 wsJ0_indexOf_0f7a4) := goodIn_app (goodIn_of _ (by decide +kernel)) ggX5_readRank_J0_indexOf_0f7a4
set_option maxRecDepth 20000 in
theorem ggX5_readRank_X0_put : GoodIn wsX5_readRank wsX0_put := goodIn_r2 cbX5_readRank_f _ [(5, 11), (5, 12), (5, 13), (5, 14), (8, 0), (8, 1), (8, 2), (8, 3), (8, 4), (8, 5), (8, 6)] rfl (by decide +kernel)
set_option maxRecDepth 20000 in
theorem gX5_readRank_X0_put : GoodIn wsX5_readRank (wsV RX5 84 RX0 yX0_put wsX0_put) := goodIn_app (goodIn_of _ (by decide +kernel)) ggX5_readRank_X0_put
set_option maxRecDepth 20000 in
theorem ggX5_readSide_X6_at : GoodIn wsX5_readSide wsX6_at := goodIn_r _ [8, 9, 10, 25, 26] rfl (by decide +kernel)
set_option maxRecDepth 20000 in
theorem gX5_readSide_X6_at : GoodIn wsX5_readSide (wsV RX5 63 RX6 yX6_at wsX6_at) := goodIn_app (goodIn_of _ (by decide +kernel)) ggX5_readSide_X6_at
set_option maxRecDepth 20000 in
theorem ggX5_readSide_X5_skip : GoodIn wsX5_readSide wsX5_skip := goodIn_r _ [15, 1, 2, 4, 5, 6, 7, 8, 9, 10, 16, 17, 25, 26] rfl (by decide +kernel)
set_option maxRecDepth 20000 in
theorem gX5_readSide_X5_skip : GoodIn wsX5_readSide (wsV RX5 31 RX5 yX5_skip wsX5_skip) := goodIn_app (goodIn_of _ (by decide +kernel)) ggX5_readSide_X5_skip
set_option maxRecDepth 20000 in
theorem ggX5_readRights_X5_skip : GoodIn wsX5_readRights wsX5_skip := goodIn_r2 cbX5_readRights_f _ [(1, 5), (1, 6), (1, 7), (1, 8), (1, 9), (1, 10), (1, 11), (1, 12), (1, 13), (1, 14), (5, 0), (5, 1), (6, 0), (6, 1)] rfl (by decide +kernel)
set_option maxRecDepth 20000 in
theorem gX5_readRights_X5_skip : GoodIn wsX5_readRights (wsV RX5 31 RX5 yX5_skip wsX5_skip) := goodIn_app (goodIn_of _ (by decide +kernel)) ggX5_readRights_X5_skip
set_option maxRecDepth 20000 in
theorem ggX5_readRights_J0_length_8abf5 : GoodIn wsX5_readRights wsJ0_length_8abf5 := goodIn_r _ [20, 21, 22, 23, 24, 19, 25, 26, 27] rfl (by decide +kernel)
set_option maxRecDepth 20000 in
theorem gX5_readRights_J0_length_8abf5 : GoodIn wsX5_readRights (wsV RX5 93 RJ0 yJ0_length_8abf5 wsJ0_length_8abf5) := goodIn_app (goodIn_of _ (by decide +kernel)) ggX5_readRights_J0_length_8abf5
set_option maxRecDepth 20000 in
theorem ggX5_readRights_J0_charAt_5068e : GoodIn wsX5_readRights wsJ0_charAt_5068e := goodIn_r2 cbX5_readRights_f _ [(2, 6), (1, 20), (2, 7), (2, 8), (2, 9), (1, 18), (2, 10), (2, 1), (2, 2), (2, 11), (2, 12), (2, 13), (2, 14), (2, 15), (2, 16), (2, 17), (2, 18), (2, 19), (2, 20), (2, 21), (2, 22), (2, 23), (3, 0), (3, 1), (3, 2), (3, 3), (3, 4), (3, 5), (3, 6), (3, 7), (3, 8), (3, 9), (3, 10), (3, 11), (3, 12), (3, 13), (3, 14), (3, 15)] rfl (by decide +kernel)
set_option maxRecDepth 20000 in
theorem gX5_readRights_J0_charAt_5068e : GoodIn wsX5_readRights (wsV RX5 96 RJ0 yJ0_charAt_5068e wsJ0_charAt_5068e) := goodIn_app (goodIn_of _ (by decide +kernel)) ggX5_readRights_J0_charAt_5068e
set_option maxRecDepth 20000 in
theorem ggX5_readPassed_X5_skip : GoodIn wsX5_readPassed wsX5_skip := goodIn_r _ [8, 1, 2, 9, 10, 11, 12, 13, 14, 15, 25, 26, 34, 35] rfl (by decide +kernel)
set_option maxRecDepth 20000 in
theorem gX5_readPassed_X5_skip : GoodIn wsX5_readPassed (wsV RX5 31 RX5 yX5_skip wsX5_skip) := goodIn_app (goodIn_of _ (by decide +kernel)) ggX5_readPassed_X5_skip
set_option maxRecDepth 20000 in
theorem ggX5_readPassed_X6_at : GoodIn wsX5_readPassed wsX6_at := goodIn_r _ [13, 14, 15, 34, 35] rfl (by decide +kernel)
set_option maxRecDepth 20000 in
theorem gX5_readPassed_X6_at : GoodIn wsX5_readPassed (wsV RX5 63 RX6 yX6_at wsX6_at) := goodIn_app (goodIn_of _ (by decide +kernel)) ggX5_readPassed_X6_at
set_option maxRecDepth 20000 in
theorem ggX5_readPassed_X11_squareOf : GoodIn wsX5_readPassed wsX11_squareOf := goodIn_r _ [18, 19, 20, 17, 21, 22, 23, 24] rfl (by decide +kernel)
set_option maxRecDepth 20000 in
theorem gX5_readPassed_X11_squareOf_n102 : GoodIn wsX5_readPassed (wsX11_squareOf) := ggX5_readPassed_X11_squareOf
set_option maxRecDepth 20000 in
theorem ggX5_readNumber_X6_at : GoodIn wsX5_readNumber wsX6_at := goodIn_r _ [7, 8, 9, 15, 16] rfl (by decide +kernel)
set_option maxRecDepth 20000 in
theorem gX5_readNumber_X6_at : GoodIn wsX5_readNumber (wsV RX5 63 RX6 yX6_at wsX6_at) := goodIn_app (goodIn_of _ (by decide +kernel)) ggX5_readNumber_X6_at
set_option maxRecDepth 20000 in
theorem ggX5_readNumber_X11_isDigit : GoodIn wsX5_readNumber wsX11_isDigit := goodIn_r _ [12] rfl (by decide +kernel)
set_option maxRecDepth 20000 in
theorem gX5_readNumber_X11_isDigit_n109 : GoodIn wsX5_readNumber (wsX11_isDigit) := ggX5_readNumber_X11_isDigit
set_option maxRecDepth 20000 in
theorem ggX5_readMoveNumber_X5_readNumber : GoodIn wsX5_readMoveNumber wsX5_readNumber := goodIn_r _ [6, 7, 8, 9, 10, 11, 12, 13, 14, 15, 16, 17, 18, 26, 27, 28, 29] rfl (by decide +kernel)
set_option maxRecDepth 20000 in
theorem gX5_readMoveNumber_X5_readNumber : GoodIn wsX5_readMoveNumber (wsV RX5 44 RX5 yX5_readNumber wsX5_readNumber) := goodIn_app (goodIn_of _ (by decide +kernel)) ggX5_readMoveNumber_X5_readNumber
set_option maxRecDepth 20000 in
theorem ggX5_hasSoundMen_X0_kindAt : GoodIn wsX5_hasSoundMen wsX0_kindAt := goodIn_r _ [7, 8, 23, 24, 25, 26, 27, 28, 29] rfl (by decide +kernel)
set_option maxRecDepth 20000 in
theorem gX5_hasSoundMen_X0_kindAt : GoodIn wsX5_hasSoundMen (wsV RX5 119 RX0 yX0_kindAt wsX0_kindAt) := goodIn_app (goodIn_of _ (by decide +kernel)) ggX5_hasSoundMen_X0_kindAt
set_option maxRecDepth 20000 in
theorem ggX5_hasSoundMen_X0_kingOf : GoodIn wsX5_hasSoundMen wsX0_kingOf := goodIn_r _ [12, 13, 14, 23, 24, 25, 26, 27, 28, 29] rfl (by decide +kernel)
set_option maxRecDepth 20000 in
theorem gX5_hasSoundMen_X0_kingOf : GoodIn wsX5_hasSoundMen (wsV RX5 122 RX0 yX0_kingOf wsX0_kingOf) := goodIn_app (goodIn_of _ (by decide +kernel)) ggX5_hasSoundMen_X0_kingOf
set_option maxRecDepth 20000 in
theorem ggX5_hasSoundMen_X0_attacked : GoodIn wsX5_hasSoundMen wsX0_attacked := goodIn_r _ [18, 8, 19, 20, 21, 6, 22, 23, 24, 25, 26, 27, 28, 29] rfl (by decide +kernel)
set_option maxRecDepth 20000 in
theorem gX5_hasSoundMen_X0_attacked : GoodIn wsX5_hasSoundMen (wsV RX5 125 RX0 yX0_attacked wsX0_attacked) := goodIn_app (goodIn_of _ (by decide +kernel)) ggX5_hasSoundMen_X0_attacked
set_option maxRecDepth 20000 in
theorem ggX5_hasSoundRights_J0_length_8abf5 : GoodIn wsX5_hasSoundRights wsJ0_length_8abf5 := goodIn_r _ [7, 8, 9, 10, 11, 6, 12, 13, 14] rfl (by decide +kernel)
set_option maxRecDepth 20000 in
theorem gX5_hasSoundRights_J0_length_8abf5 : GoodIn wsX5_hasSoundRights (wsV RX5 93 RJ0 yJ0_length_8abf5 wsJ0_length_8abf5) := goodIn_app (goodIn_of _ (by decide +kernel)) ggX5_hasSoundRights_J0_length_8abf5
set_option maxRecDepth 20000 in
theorem ggX5_hasSoundPassed_X0_pawnAttacks : GoodIn wsX5_hasSoundPassed wsX0_pawnAttacks := goodIn_r _ [8, 9, 10, 11, 12, 13, 14, 15, 16] rfl (by decide +kernel)
set_option maxRecDepth 20000 in
theorem gX5_hasSoundPassed_X0_pawnAttacks : GoodIn wsX5_hasSoundPassed (wsV RX5 129 RX0 yX0_pawnAttacks wsX0_pawnAttacks) := goodIn_app (goodIn_of _ (by decide +kernel)) ggX5_hasSoundPassed_X0_pawnAttacks
end
section
set_option maxRecDepth 20000 in
theorem ggX6_putText_J0_length_8abf5 : GoodIn wsX6_putText wsJ0_length_8abf5 := goodIn_r _ [5, 6, 7, 8, 9, 4, 10, 11, 12] rfl (by decide +kernel)
set_option maxRecDepth 20000 in
theorem gX6_putText_J0_length_8abf5 : GoodIn wsX6_putText (wsV RX6 26 RJ0 yJ0_length_8abf5 wsJ0_length_8abf5) := goodIn_app (goodIn_of _ (by decide +kernel)) ggX6_putText_J0_length_8abf5
set_option maxRecDepth 20000 in
theorem ggX6_putText_J0_charAt_5068e : GoodIn wsX6_putText wsJ0_charAt_5068e := goodIn_r2 cbX6_putText_f _ [(1, 15), (1, 5), (1, 16), (1, 17), (1, 18), (1, 3), (1, 19), (1, 10), (1, 11), (1, 20), (1, 21), (1, 22), (1, 23), (2, 0), (2, 1), (2, 2), (2, 3), (2, 4), (2, 5), (2, 6), (2, 7), (2, 8), (2, 9), (2, 10), (2, 11), (2, 12), (2, 13), (2, 14), (2, 15), (2, 16), (2, 17), (2, 18), (2, 19), (2, 20), (2, 21), (2, 22), (2, 23), (3, 0)] rfl (by decide +kernel)
set_option maxRecDepth 20000 in
theorem gX6_putText_J0_charAt_5068e : GoodIn wsX6_putText (wsV RX6 31 RJ0 yJ0_charAt_5068e wsJ0_charAt_5068e) := goodIn_app (goodIn_of _ (by decide +kernel)) ggX6_putText_J0_charAt_5068e
set_option maxRecDepth 20000 in
theorem ggX6_putText_X6_put : GoodIn wsX6_putText wsX6_put := goodIn_r2 cbX6_putText_f _ [(3, 5), (3, 6), (3, 7), (3, 8), (3, 9), (3, 10), (3, 11), (3, 12), (4, 0), (4, 1)] rfl (by decide +kernel)
set_option maxRecDepth 20000 in
theorem gX6_putText_X6_put : GoodIn wsX6_putText (wsV RX6 35 RX6 yX6_put wsX6_put) := goodIn_app (goodIn_of _ (by decide +kernel)) ggX6_putText_X6_put
set_option maxRecDepth 20000 in
theorem ggX6_putNumber_X6_put : GoodIn wsX6_putNumber wsX6_put := goodIn_r _ [5, 6, 7, 8, 9, 10, 11, 12, 13, 14] rfl (by decide +kernel)
set_option maxRecDepth 20000 in
theorem gX6_putNumber_X6_put : GoodIn wsX6_putNumber (wsV RX6 35 RX6 yX6_put wsX6_put) := goodIn_app (goodIn_of _ (by decide +kernel)) ggX6_putNumber_X6_put
set_option maxRecDepth 20000 in
theorem ggX6_copyFrom_X6_putAll : GoodIn wsX6_copyFrom wsX6_putAll := goodIn_r _ [6, 1, 7, 8, 9, 5, 10, 11, 12, 13, 14, 15, 16, 17, 18, 19, 20, 21, 22] rfl (by decide +kernel)
set_option maxRecDepth 20000 in
theorem gX6_copyFrom_X6_putAll : GoodIn wsX6_copyFrom (wsV RX6 39 RX6 yX6_putAll wsX6_putAll) := goodIn_app (goodIn_of _ (by decide +kernel)) ggX6_copyFrom_X6_putAll
set_option maxRecDepth 20000 in
theorem ggX6_putAll_X6_at : GoodIn wsX6_putAll wsX6_at := goodIn_r _ [6, 1, 7, 17, 18] rfl (by decide +kernel)
set_option maxRecDepth 20000 in
theorem gX6_putAll_X6_at : GoodIn wsX6_putAll (wsV RX6 43 RX6 yX6_at wsX6_at) := goodIn_app (goodIn_of _ (by decide +kernel)) ggX6_putAll_X6_at
set_option maxRecDepth 20000 in
theorem ggX6_putAll_X6_put : GoodIn wsX6_putAll wsX6_put := goodIn_r _ [11, 1, 7, 12, 13, 14, 15, 16, 17, 18] rfl (by decide +kernel)
set_option maxRecDepth 20000 in
theorem gX6_putAll_X6_put : GoodIn wsX6_putAll (wsV RX6 35 RX6 yX6_put wsX6_put) := goodIn_app (goodIn_of _ (by decide +kernel)) ggX6_putAll_X6_put
set_option maxRecDepth 20000 in
theorem ggX6_holds_J0_length_8abf5 : GoodIn wsX6_holds wsJ0_length_8abf5 := goodIn_r _ [7, 8, 9, 10, 11, 6, 12, 13, 14] rfl (by decide +kernel)
set_option maxRecDepth 20000 in
theorem gX6_holds_J0_length_8abf5 : GoodIn wsX6_holds (wsV RX6 26 RJ0 yJ0_length_8abf5 wsJ0_length_8abf5) := goodIn_app (goodIn_of _ (by decide +kernel)) ggX6_holds_J0_length_8abf5
set_option maxRecDepth 20000 in
theorem ggX6_holds_J0_charAt_5068e : GoodIn wsX6_holds wsJ0_charAt_5068e := goodIn_r2 cbX6_holds_f _ [(1, 17), (1, 7), (1, 18), (1, 19), (1, 20), (1, 5), (1, 21), (1, 12), (1, 13), (1, 22), (1, 23), (2, 0), (2, 1), (2, 2), (2, 3), (2, 4), (2, 5), (2, 6), (2, 7), (2, 8), (2, 9), (2, 10), (2, 11), (2, 12), (2, 13), (2, 14), (2, 15), (2, 16), (2, 17), (2, 18), (2, 19), (2, 20), (2, 21), (2, 22), (2, 23), (3, 0), (3, 1), (3, 2)] rfl (by decide +kernel)
set_option maxRecDepth 20000 in
theorem gX6_holds_J0_charAt_5068e : GoodIn wsX6_holds (wsV RX6 31 RJ0 yJ0_charAt_5068e wsJ0_charAt_5068e) := goodIn_app (goodIn_of _ (by decide +kernel)) ggX6_holds_J0_charAt_5068e
set_option maxRecDepth 20000 in
theorem ggX6_is_J0_length_8abf5 : GoodIn wsX6_is wsJ0_length_8abf5 := goodIn_r _ [6, 7, 8, 9, 10, 5, 11, 12, 13] rfl (by decide +kernel)
set_option maxRecDepth 20000 in
theorem gX6_is_J0_length_8abf5 : GoodIn wsX6_is (wsV RX6 26 RJ0 yJ0_length_8abf5 wsJ0_length_8abf5) := goodIn_app (goodIn_of _ (by decide +kernel)) ggX6_is_J0_length_8abf5
set_option maxRecDepth 20000 in
theorem ggX6_is_X6_holds : GoodIn wsX6_is wsX6_holds := goodIn_r2 cbX6_is_f _ [(1, 17), (1, 0), (1, 18), (1, 1), (1, 2), (1, 3), (1, 4), (1, 5), (1, 6), (1, 7), (1, 8), (1, 9), (1, 10), (1, 11), (1, 12), (1, 19), (1, 20), (1, 21), (1, 22), (1, 23), (2, 0), (2, 1), (2, 2), (2, 3), (2, 4), (2, 5), (2, 6), (2, 7), (2, 8), (2, 9), (2, 10), (2, 11), (2, 12), (2, 13), (2, 14), (2, 15), (2, 16), (2, 17), (2, 18), (2, 19), (2, 20), (2, 21), (2, 22), (2, 23), (3, 0), (3, 1), (3, 2), (3, 3), (3, 4), (3, 5), (3, 6), (3, 7), (4, 0), (4, 1)] rfl (by decide +kernel)
set_option maxRecDepth 20000 in
theorem gX6_is_X6_holds : GoodIn wsX6_is (wsV RX6 52 RX6 yX6_holds wsX6_holds) := goodIn_app (goodIn_of _ (by decide +kernel)) ggX6_is_X6_holds
set_option maxRecDepth 20000 in
theorem ggX6_isLike_X6_at : GoodIn wsX6_isLike wsX6_at := goodIn_r _ [7, 1, 2, 8, 9] rfl (by decide +kernel)
set_option maxRecDepth 20000 in
theorem gX6_isLike_X6_at : GoodIn wsX6_isLike (wsV RX6 43 RX6 yX6_at wsX6_at) := goodIn_app (goodIn_of _ (by decide +kernel)) ggX6_isLike_X6_at
end
section
set_option maxRecDepth 20000 in
theorem ggX7_init_X0_init : GoodIn wsX7_init wsX0_init := goodIn_r _ [10, 11, 2, 3, 12, 13, 14, 15, 16, 17, 18, 19, 20, 21, 22, 23, 24, 25, 26] rfl (by decide +kernel)
set_option maxRecDepth 20000 in
theorem gX7_init_X0_init_n11 : GoodIn wsX7_init (wsX0_init) := ggX7_init_X0_init
set_option maxRecDepth 20000 in
theorem ggX7_isSafe_X0_castles : GoodIn wsX7_isSafe wsX0_castles := goodIn_r2 cbX7_isSafe_f _ [(1, 6), (1, 7), (4, 0), (4, 1), (4, 2), (4, 3), (4, 4), (4, 5), (4, 6)] rfl (by decide +kernel)
set_option maxRecDepth 20000 in
theorem gX7_isSafe_X0_castles : GoodIn wsX7_isSafe (wsV RX7 25 RX0 yX0_castles wsX0_castles) := goodIn_app (goodIn_of _ (by decide +kernel)) ggX7_isSafe_X0_castles
set_option maxRecDepth 20000 in
theorem ggX7_isSafe_X0_attacked : GoodIn wsX7_isSafe wsX0_attacked := goodIn_r2 cbX7_isSafe_f _ [(1, 11), (1, 7), (1, 12), (1, 13), (1, 14), (1, 5), (1, 15), (4, 0), (4, 1), (4, 2), (4, 3), (4, 4), (4, 5), (4, 6)] rfl (by decide +kernel)
set_option maxRecDepth 20000 in
theorem gX7_isSafe_X0_attacked : GoodIn wsX7_isSafe (wsV RX7 29 RX0 yX0_attacked wsX0_attacked) := goodIn_app (goodIn_of _ (by decide +kernel)) ggX7_isSafe_X0_attacked
set_option maxRecDepth 20000 in
theorem ggX7_isSafe_X0_copyFrom : GoodIn wsX7_isSafe wsX0_copyFrom := goodIn_r2 cbX7_isSafe_f _ [(1, 19), (1, 7), (1, 20), (1, 21), (1, 22), (1, 23), (2, 0), (2, 1), (2, 2), (2, 3), (2, 4), (2, 5), (4, 0), (4, 1), (4, 2), (4, 3), (4, 4), (4, 5), (4, 6)] rfl (by decide +kernel)
set_option maxRecDepth 20000 in
theorem gX7_isSafe_X0_copyFrom : GoodIn wsX7_isSafe (wsV RX7 32 RX0 yX0_copyFrom wsX0_copyFrom) := goodIn_app (goodIn_of _ (by decide +kernel)) ggX7_isSafe_X0_copyFrom
set_option maxRecDepth 20000 in
theorem ggX7_isSafe_X0_play : GoodIn wsX7_isSafe wsX0_play := goodIn_r2 cbX7_isSafe_f _ [(2, 9), (2, 4), (1, 7), (2, 2), (2, 3), (2, 5), (2, 10), (2, 11), (2, 12), (1, 5), (2, 13), (2, 14), (1, 3), (1, 4), (1, 6), (2, 15), (2, 16), (2, 17), (2, 18), (2, 0), (2, 1), (2, 19), (2, 20), (2, 21), (2, 22), (2, 23), (3, 0), (3, 1), (4, 0), (4, 1), (4, 2), (4, 3), (4, 4), (4, 5), (4, 6)] rfl (by decide +kernel)
set_option maxRecDepth 20000 in
theorem gX7_isSafe_X0_play : GoodIn wsX7_isSafe (wsV RX7 36 RX0 yX0_play wsX0_play) := goodIn_app (goodIn_of _ (by decide +kernel)) ggX7_isSafe_X0_play
set_option maxRecDepth 20000 in
theorem ggX7_isSafe_X0_kingOf : GoodIn wsX7_isSafe wsX0_kingOf := goodIn_r2 cbX7_isSafe_f _ [(3, 5), (2, 0), (2, 1), (4, 0), (4, 1), (4, 2), (4, 3), (4, 4), (4, 5), (4, 6)] rfl (by decide +kernel)
set_option maxRecDepth 20000 in
theorem gX7_isSafe_X0_kingOf : GoodIn wsX7_isSafe (wsV RX7 40 RX0 yX0_kingOf wsX0_kingOf) := goodIn_app (goodIn_of _ (by decide +kernel)) ggX7_isSafe_X0_kingOf
set_option maxRecDepth 20000 in
theorem ggX7_isLegal_X0_reaches : GoodIn wsX7_isLegal wsX0_reaches := goodIn_r2 cbX7_isLegal_f _ [(1, 4), (1, 5), (1, 6), (1, 7), (1, 8), (1, 9), (1, 3), (1, 10), (1, 11), (1, 12), (1, 13), (1, 14), (1, 15), (1, 16), (1, 17), (1, 18), (1, 19), (1, 20), (1, 21), (1, 22), (1, 23), (2, 0), (2, 1), (2, 2), (2, 3), (2, 4), (5, 0), (5, 1), (5, 2), (5, 3), (5, 4), (5, 5), (5, 6)] rfl (by decide +kernel)
set_option maxRecDepth 20000 in
theorem gX7_isLegal_X0_reaches : GoodIn wsX7_isLegal (wsV RX7 44 RX0 yX0_reaches wsX0_reaches) := goodIn_app (goodIn_of _ (by decide +kernel)) ggX7_isLegal_X0_reaches
set_option maxRecDepth 20000 in
theorem ggX7_isLegal_X0_becomesAnother : GoodIn wsX7_isLegal wsX0_becomesAnother := goodIn_r2 cbX7_isLegal_f _ [(2, 8), (1, 7), (1, 8), (1, 9), (1, 3), (1, 10), (1, 5), (5, 0), (5, 1), (5, 2), (5, 3), (5, 4), (5, 5), (5, 6)] rfl (by decide +kernel)
set_option maxRecDepth 20000 in
theorem gX7_isLegal_X0_becomesAnother : GoodIn wsX7_isLegal (wsV RX7 47 RX0 yX0_becomesAnother wsX0_becomesAnother) := goodIn_app (goodIn_of _ (by decide +kernel)) ggX7_isLegal_X0_becomesAnother
set_option maxRecDepth 20000 in
theorem ggX7_isLegal_X7_isSafe : GoodIn wsX7_isLegal wsX7_isSafe := goodIn_r2 cbX7_isLegal_f _ [(2, 13), (2, 14), (2, 15), (2, 16), (1, 21), (1, 22), (1, 3), (1, 23), (1, 5), (2, 17), (2, 18), (2, 19), (2, 20), (1, 16), (1, 17), (1, 18), (1, 19), (2, 21), (2, 22), (2, 23), (3, 0), (3, 1), (3, 2), (3, 3), (3, 4), (3, 5), (3, 6), (1, 6), (2, 4), (1, 15), (3, 7), (3, 8), (3, 9), (3, 10), (3, 11), (1, 7), (1, 8), (1, 9), (1, 10), (1, 20), (3, 12), (3, 13), (3, 14), (3, 15), (3, 16), (3, 17), (3, 18), (3, 19), (3, 20), (3, 21), (3, 22), (3, 23), (4, 0), (4, 1), (4, 2), (5, 0), (5, 1), (5, 2), (5, 3), (5, 4), (5, 5), (5, 6), (6, 0), (6, 1)] rfl (by decide +kernel)
set_option maxRecDepth 20000 in
theorem gX7_isLegal_X7_isSafe : GoodIn wsX7_isLegal (wsV RX7 50 RX7 yX7_isSafe wsX7_isSafe) := goodIn_app (goodIn_of _ (by decide +kernel)) ggX7_isLegal_X7_isSafe
set_option maxRecDepth 20000 in
theorem ggX7_legalMove_X0_reaches : GoodIn wsX7_legalMove wsX0_reaches := goodIn_r2 cbX7_legalMove_f _ [(1, 4), (1, 5), (1, 6), (1, 7), (1, 8), (1, 9), (1, 3), (1, 10), (1, 11), (1, 12), (1, 13), (1, 14), (1, 15), (1, 16), (1, 17), (1, 18), (1, 19), (1, 20), (1, 21), (1, 22), (1, 23), (2, 0), (2, 1), (2, 2), (2, 3), (2, 4), (5, 0), (5, 1), (5, 2), (5, 3), (5, 4), (5, 5), (5, 6)] rfl (by decide +kernel)
set_option maxRecDepth 20000 in
theorem gX7_legalMove_X0_reaches : GoodIn wsX7_legalMove (wsV RX7 44 RX0 yX0_reaches wsX0_reaches) := goodIn_app (goodIn_of _ (by decide +kernel)) ggX7_legalMove_X0_reaches
set_option maxRecDepth 20000 in
theorem ggX7_legalMove_X7_isSafe : GoodIn wsX7_legalMove wsX7_isSafe := goodIn_r2 cbX7_legalMove_f _ [(2, 9), (2, 10), (2, 11), (2, 12), (1, 21), (1, 22), (1, 3), (1, 23), (1, 5), (2, 13), (2, 14), (2, 15), (2, 16), (1, 16), (1, 17), (1, 18), (1, 19), (2, 17), (2, 18), (2, 19), (2, 20), (2, 21), (2, 22), (2, 23), (3, 0), (3, 1), (3, 2), (1, 6), (2, 4), (1, 15), (3, 3), (3, 4), (3, 5), (3, 6), (3, 7), (1, 7), (1, 8), (1, 9), (1, 10), (1, 20), (3, 8), (3, 9), (3, 10), (3, 11), (3, 12), (3, 13), (3, 14), (3, 15), (3, 16), (3, 17), (3, 18), (3, 19), (3, 20), (3, 21), (3, 22), (5, 0), (5, 1), (5, 2), (5, 3), (5, 4), (5, 5), (5, 6), (6, 0), (6, 1)] rfl (by decide +kernel)
set_option maxRecDepth 20000 in
theorem gX7_legalMove_X7_isSafe : GoodIn wsX7_legalMove (wsV RX7 50 RX7 yX7_isSafe wsX7_isSafe) := goodIn_app (goodIn_of _ (by decide +kernel)) ggX7_legalMove_X7_isSafe
set_option maxRecDepth 20000 in
theorem ggX7_legalMove_X0_becomesAnother : GoodIn wsX7_legalMove wsX0_becomesAnother := goodIn_r2 cbX7_legalMove_f _ [(4, 2), (1, 7), (1, 8), (1, 9), (1, 3), (1, 10), (1, 5), (5, 0), (5, 1), (5, 2), (5, 3), (5, 4), (5, 5), (5, 6)] rfl (by decide +kernel)
set_option maxRecDepth 20000 in
theorem gX7_legalMove_X0_becomesAnother : GoodIn wsX7_legalMove (wsV RX7 47 RX0 yX0_becomesAnother wsX0_becomesAnother) := goodIn_app (goodIn_of _ (by decide +kernel)) ggX7_legalMove_X0_becomesAnother
set_option maxRecDepth 20000 in
theorem ggX7_checkSign_X0_copyFrom : GoodIn wsX7_checkSign wsX0_copyFrom := goodIn_r2 cbX7_checkSign_f _ [(1, 6), (1, 7), (1, 8), (1, 9), (1, 10), (1, 11), (1, 12), (1, 13), (1, 14), (1, 15), (1, 16), (1, 17), (5, 0), (5, 1), (5, 2), (5, 3), (5, 4), (5, 5), (5, 6)] rfl (by decide +kernel)
set_option maxRecDepth 20000 in
theorem gX7_checkSign_X0_copyFrom : GoodIn wsX7_checkSign (wsV RX7 32 RX0 yX0_copyFrom wsX0_copyFrom) := goodIn_app (goodIn_of _ (by decide +kernel)) ggX7_checkSign_X0_copyFrom
set_option maxRecDepth 20000 in
theorem ggX7_checkSign_X0_play : GoodIn wsX7_checkSign wsX0_play := goodIn_r2 cbX7_checkSign_f _ [(1, 21), (1, 16), (1, 7), (1, 14), (1, 15), (1, 17), (1, 22), (1, 23), (2, 0), (1, 5), (2, 1), (2, 2), (2, 3), (2, 4), (2, 5), (2, 6), (2, 7), (2, 8), (2, 9), (1, 12), (1, 13), (2, 10), (2, 11), (2, 12), (2, 13), (2, 14), (2, 15), (2, 16), (5, 0), (5, 1), (5, 2), (5, 3), (5, 4), (5, 5), (5, 6)] rfl (by decide +kernel)
set_option maxRecDepth 20000 in
theorem gX7_checkSign_X0_play : GoodIn wsX7_checkSign (wsV RX7 36 RX0 yX0_play wsX0_play) := goodIn_app (goodIn_of _ (by decide +kernel)) ggX7_checkSign_X0_play
set_option maxRecDepth 20000 in
theorem ggX7_checkSign_X0_kingOf : GoodIn wsX7_checkSign wsX0_kingOf := goodIn_r2 cbX7_checkSign_f _ [(2, 20), (1, 12), (1, 13), (5, 0), (5, 1), (5, 2), (5, 3), (5, 4), (5, 5), (5, 6)] rfl (by decide +kernel)
set_option maxRecDepth 20000 in
theorem gX7_checkSign_X0_kingOf : GoodIn wsX7_checkSign (wsV RX7 40 RX0 yX0_kingOf wsX0_kingOf) := goodIn_app (goodIn_of _ (by decide +kernel)) ggX7_checkSign_X0_kingOf
set_option maxRecDepth 20000 in
theorem ggX7_checkSign_X0_attacked : GoodIn wsX7_checkSign wsX0_attacked := goodIn_r2 cbX7_checkSign_f _ [(3, 0), (1, 7), (3, 1), (3, 2), (3, 3), (1, 5), (3, 4), (5, 0), (5, 1), (5, 2), (5, 3), (5, 4), (5, 5), (5, 6)] rfl (by decide +kernel)
set_option maxRecDepth 20000 in
theorem gX7_checkSign_X0_attacked : GoodIn wsX7_checkSign (wsV RX7 29 RX0 yX0_attacked wsX0_attacked) := goodIn_app (goodIn_of _ (by decide +kernel)) ggX7_checkSign_X0_attacked
set_option maxRecDepth 20000 in
theorem ggX7_checkSign_X0_reaches : GoodIn wsX7_checkSign wsX0_reaches := goodIn_r2 cbX7_checkSign_f _ [(3, 8), (1, 7), (1, 14), (1, 22), (1, 23), (2, 0), (1, 5), (2, 1), (3, 9), (3, 10), (3, 11), (3, 12), (1, 16), (3, 1), (3, 2), (3, 3), (3, 4), (2, 2), (2, 3), (2, 4), (2, 5), (3, 13), (3, 14), (3, 15), (3, 16), (1, 15), (5, 0), (5, 1), (5, 2), (5, 3), (5, 4), (5, 5), (5, 6)] rfl (by decide +kernel)
set_option maxRecDepth 20000 in
theorem gX7_checkSign_X0_reaches : GoodIn wsX7_checkSign (wsV RX7 44 RX0 yX0_reaches wsX0_reaches) := goodIn_app (goodIn_of _ (by decide +kernel)) ggX7_checkSign_X0_reaches
set_option maxRecDepth 20000 in
theorem ggX7_checkSign_X7_isSafe : GoodIn wsX7_checkSign wsX7_isSafe := goodIn_r2 cbX7_checkSign_f _ [(3, 21), (1, 1), (3, 22), (3, 23), (2, 3), (2, 4), (1, 5), (2, 5), (1, 7), (2, 21), (2, 22), (2, 23), (3, 0), (3, 1), (3, 2), (3, 3), (3, 4), (1, 2), (1, 3), (1, 4), (1, 6), (1, 8), (1, 9), (1, 10), (1, 11), (1, 12), (1, 13), (1, 14), (1, 15), (1, 16), (1, 17), (1, 18), (1, 19), (1, 20), (1, 21), (1, 22), (1, 23), (2, 0), (2, 1), (2, 2), (2, 6), (2, 7), (2, 8), (2, 9), (2, 10), (2, 11), (2, 12), (2, 13), (2, 14), (2, 15), (2, 16), (2, 17), (2, 18), (2, 19), (2, 20), (5, 0), (5, 1), (5, 2), (5, 3), (5, 4), (5, 5), (5, 6), (4, 0), (4, 1)] rfl (by decide +kernel)
set_option maxRecDepth 20000 in
theorem gX7_checkSign_X7_isSafe : GoodIn wsX7_checkSign (wsV RX7 50 RX7 yX7_isSafe wsX7_isSafe) := goodIn_app (goodIn_of _ (by decide +kernel)) ggX7_checkSign_X7_isSafe
end
section
set_option maxRecDepth 20000 in
theorem ggX8_init_X7_init : GoodIn wsX8_init wsX7_init := goodIn_r2 cbX8_init_f _ [(1, 14), (1, 15), (1, 1), (1, 2), (1, 16), (1, 17), (1, 18), (1, 19), (1, 20), (1, 21), (1, 22), (1, 23), (1, 11), (2, 0), (2, 1), (2, 2), (2, 3), (2, 4), (2, 5), (2, 6), (6, 0), (6, 1), (6, 2), (6, 3), (6, 4), (6, 5), (6, 6), (3, 0), (3, 1)] rfl (by decide +kernel)
set_option maxRecDepth 20000 in
theorem gX8_init_X7_init_n11 : GoodIn wsX8_init (wsX7_init) := ggX8_init_X7_init
set_option maxRecDepth 20000 in
theorem ggX8_init_X6_init : GoodIn wsX8_init wsX6_init := goodIn_r2 cbX8_init_f _ [(2, 8), (2, 9), (1, 1), (1, 2), (2, 10), (2, 11), (2, 12), (5, 0), (5, 1)] rfl (by decide +kernel)
set_option maxRecDepth 20000 in
theorem gX8_init_X6_init_n20 : GoodIn wsX8_init (wsX6_init) := ggX8_init_X6_init
set_option maxRecDepth 20000 in
theorem ggX8_matched_X8_copyWhole : GoodIn wsX8_matched wsX8_copyWhole := goodIn_r2 cbX8_matched_f _ [(1, 9), (1, 10), (1, 1), (1, 11), (1, 12), (1, 13), (1, 14), (1, 15), (1, 16), (1, 17), (1, 18), (1, 19), (1, 20), (1, 21), (1, 22), (1, 23), (2, 0), (2, 1), (2, 2), (2, 3), (2, 4), (2, 5), (2, 6), (2, 7), (2, 8), (2, 9), (2, 10), (13, 0), (13, 1), (13, 2), (13, 3), (13, 4), (13, 5), (13, 6), (13, 7), (13, 8), (13, 9), (13, 10), (13, 11), (14, 0), (14, 1)] rfl (by decide +kernel)
set_option maxRecDepth 20000 in
theorem gX8_matched_X8_copyWhole : GoodIn wsX8_matched (wsV RX8 29 RX8 yX8_copyWhole wsX8_copyWhole) := goodIn_app (goodIn_of _ (by decide +kernel)) ggX8_matched_X8_copyWhole
set_option maxRecDepth 20000 in
theorem ggX8_matched_X8_parse : GoodIn wsX8_matched wsX8_parse := goodIn_r2 cbX8_matched_f _ [(2, 14), (2, 15), (1, 10), (2, 16), (2, 17), (2, 18), (1, 4), (2, 19), (2, 20), (2, 21), (1, 14), (2, 22), (1, 16), (2, 23), (3, 0), (3, 1), (3, 2), (3, 3), (3, 4), (3, 5), (3, 6), (3, 7), (3, 8), (3, 9), (3, 10), (3, 11), (3, 12), (3, 13), (3, 14), (2, 1), (3, 15), (3, 16), (3, 17), (3, 18), (3, 19), (3, 20), (3, 21), (3, 22), (3, 23), (4, 0), (4, 1), (4, 2), (4, 3), (4, 4), (4, 5), (4, 6), (4, 7), (4, 8), (4, 9), (4, 10), (4, 11), (4, 12), (4, 13), (4, 14), (4, 15), (4, 16), (4, 17), (4, 18), (4, 19), (4, 20), (4, 21), (4, 22), (4, 23), (5, 0), (5, 1), (5, 2), (5, 3), (1, 21), (1, 22), (1, 23), (2, 0), (5, 4), (5, 5), (5, 6), (5, 7), (5, 8), (5, 9), (5, 10), (5, 11), (5, 12), (5, 13), (5, 14), (5, 15), (5, 16), (5, 17), (5, 18), (5, 19), (5, 20), (5, 21), (5, 22), (5, 23), (6, 0), (6, 1), (6, 2), (6, 3), (6, 4), (6, 5), (6, 6), (6, 7), (6, 8), (6, 9), (6, 10), (6, 11), (6, 12), (6, 13), (6, 14), (6, 15), (6, 16), (6, 17), (6, 18), (6, 19), (6, 20), (6, 21), (6, 22), (6, 23), (7, 0), (7, 1), (7, 2), (7, 3), (7, 4), (7, 5), (7, 6), (7, 7), (7, 8), (7, 9), (7, 10), (7, 11), (7, 12), (7, 13), (7, 14), (7, 15), (7, 16), (7, 17), (7, 18), (7, 19), (1, 17), (1, 18), (1, 19), (1, 20), (7, 20), (7, 21), (7, 22), (7, 23), (8, 0), (8, 1), (8, 2), (8, 3), (8, 4), (8, 5), (8, 6), (1, 8), (8, 7), (8, 8), (8, 9), (13, 0), (13, 1), (13, 2), (13, 3), (13, 4), (13, 5), (13, 6), (13, 7), (13, 8), (13, 9), (13, 10), (13, 11), (14, 0), (14, 1)] rfl (by decide +kernel)
set_option maxRecDepth 20000 in
theorem gX8_matched_X8_parse : GoodIn wsX8_matched (wsV RX8 33 RX8 yX8_parse wsX8_parse) := goodIn_app (goodIn_of _ (by decide +kernel)) ggX8_matched_X8_parse
set_option maxRecDepth 20000 in
theorem ggX8_matched_X8_gather : GoodIn wsX8_matched wsX8_gather := goodIn_r2 cbX8_matched_f _ [(8, 13), (1, 0), (8, 14), (2, 16), (2, 18), (2, 15), (1, 2), (1, 3), (8, 15), (8, 16), (8, 17), (8, 18), (8, 19), (8, 20), (8, 21), (8, 22), (8, 23), (1, 8), (9, 0), (9, 1), (2, 17), (8, 8), (8, 9), (1, 4), (9, 2), (9, 3), (9, 4), (9, 5), (9, 6), (9, 7), (9, 8), (9, 9), (9, 10), (9, 11), (9, 12), (9, 13), (9, 14), (9, 15), (9, 16), (9, 17), (9, 18), (9, 19), (9, 20), (9, 21), (9, 22), (9, 23), (10, 0), (10, 1), (10, 2), (10, 3), (10, 4), (10, 5), (10, 6), (10, 7), (10, 8), (10, 9), (10, 10), (10, 11), (10, 12), (10, 13), (10, 14), (10, 15), (10, 16), (10, 17), (10, 18), (10, 19), (10, 20), (10, 21), (10, 22), (10, 23), (11, 0), (11, 1), (11, 2), (2, 8), (2, 9), (2, 10), (11, 3), (11, 4), (11, 5), (11, 6), (11, 7), (11, 8), (11, 9), (11, 10), (11, 11), (11, 12), (11, 13), (11, 14), (11, 15), (11, 16), (11, 17), (11, 18), (11, 19), (11, 20), (11, 21), (11, 22), (11, 23), (12, 0), (13, 0), (13, 1), (13, 2), (13, 3), (13, 4), (13, 5), (13, 6), (13, 7), (13, 8), (13, 9), (13, 10), (13, 11), (15, 0), (15, 1), (15, 2), (15, 3), (15, 4), (15, 5), (15, 6), (16, 0), (16, 1)] rfl (by decide +kernel)
set_option maxRecDepth 20000 in
theorem gX8_matched_X8_gather : GoodIn wsX8_matched (wsV RX8 37 RX8 yX8_gather wsX8_gather) := goodIn_app (goodIn_of _ (by decide +kernel)) ggX8_matched_X8_gather
set_option maxRecDepth 20000 in
theorem ggX8_matched_X7_checkSign : GoodIn wsX8_matched wsX7_checkSign := goodIn_r2 cbX8_matched_f _ [(12, 4), (12, 5), (10, 15), (10, 22), (10, 23), (11, 0), (8, 18), (11, 1), (8, 20), (11, 2), (2, 8), (2, 9), (2, 10), (11, 3), (11, 4), (9, 18), (10, 9), (9, 23), (11, 5), (11, 6), (11, 7), (11, 8), (11, 9), (9, 6), (9, 7), (9, 8), (9, 9), (10, 4), (8, 16), (8, 17), (8, 19), (11, 10), (11, 11), (11, 12), (11, 13), (11, 14), (11, 15), (11, 16), (11, 17), (11, 18), (11, 19), (11, 20), (11, 21), (11, 22), (11, 23), (12, 0), (10, 18), (10, 19), (10, 20), (10, 21), (10, 0), (10, 1), (10, 2), (10, 3), (12, 6), (9, 15), (9, 16), (9, 17), (9, 19), (9, 20), (9, 21), (9, 22), (10, 5), (10, 6), (10, 7), (10, 8), (12, 7), (10, 11), (10, 12), (10, 13), (10, 14), (10, 16), (10, 17), (16, 0), (16, 1), (15, 0), (15, 1), (15, 2), (15, 3), (15, 4), (15, 5), (15, 6)] rfl (by decide +kernel)
set_option maxRecDepth 20000 in
theorem gX8_matched_X7_checkSign : GoodIn wsX8_matched (wsV RX8 49 RX7 yX7_checkSign wsX7_checkSign) := goodIn_app (goodIn_of _ (by decide +kernel)) ggX8_matched_X7_checkSign
set_option maxRecDepth 20000 in
theorem ggX8_matched_X8_copyBare : GoodIn wsX8_matched wsX8_copyBare := goodIn_r2 cbX8_matched_f _ [(12, 11), (1, 10), (1, 11), (1, 12), (1, 13), (1, 14), (1, 15), (1, 16), (1, 17), (1, 18), (1, 19), (1, 20), (1, 21), (1, 22), (1, 23), (2, 0), (2, 1), (2, 2), (2, 3), (2, 4), (2, 5), (2, 6), (2, 7), (2, 8), (2, 9), (2, 10), (13, 0), (13, 1), (13, 2), (13, 3), (13, 4), (13, 5), (13, 6), (13, 7), (13, 8), (13, 9), (13, 10), (13, 11), (14, 0), (14, 1)] rfl (by decide +kernel)
set_option maxRecDepth 20000 in
theorem gX8_matched_X8_copyBare : GoodIn wsX8_matched (wsV RX8 53 RX8 yX8_copyBare wsX8_copyBare) := goodIn_app (goodIn_of _ (by decide +kernel)) ggX8_matched_X8_copyBare
set_option maxRecDepth 20000 in
theorem ggX8_copyWhole_X6_keep : GoodIn wsX8_copyWhole wsX6_keep := goodIn_r2 cbX8_copyWhole_f _ [(1, 6), (1, 7), (4, 0), (4, 1)] rfl (by decide +kernel)
set_option maxRecDepth 20000 in
theorem gX8_copyWhole_X6_keep : GoodIn wsX8_copyWhole (wsV RX8 59 RX6 yX6_keep wsX6_keep) := goodIn_app (goodIn_of _ (by decide +kernel)) ggX8_copyWhole_X6_keep
set_option maxRecDepth 20000 in
theorem ggX8_copyWhole_X6_size : GoodIn wsX8_copyWhole wsX6_size := goodIn_r2 cbX8_copyWhole_f _ [(1, 11), (1, 7), (4, 0), (4, 1)] rfl (by decide +kernel)
set_option maxRecDepth 20000 in
theorem gX8_copyWhole_X6_size : GoodIn wsX8_copyWhole (wsV RX8 63 RX6 yX6_size wsX6_size) := goodIn_app (goodIn_of _ (by decide +kernel)) ggX8_copyWhole_X6_size
set_option maxRecDepth 20000 in
theorem ggX8_copyWhole_X6_at : GoodIn wsX8_copyWhole wsX6_at := goodIn_r2 cbX8_copyWhole_f _ [(1, 15), (1, 7), (1, 16), (4, 0), (4, 1)] rfl (by decide +kernel)
set_option maxRecDepth 20000 in
theorem gX8_copyWhole_X6_at : GoodIn wsX8_copyWhole (wsV RX8 67 RX6 yX6_at wsX6_at) := goodIn_app (goodIn_of _ (by decide +kernel)) ggX8_copyWhole_X6_at
set_option maxRecDepth 20000 in
theorem ggX8_copyWhole_X6_put : GoodIn wsX8_copyWhole wsX6_put := goodIn_r2 cbX8_copyWhole_f _ [(1, 20), (1, 7), (1, 16), (1, 21), (1, 22), (1, 23), (2, 0), (2, 1), (4, 0), (4, 1)] rfl (by decide +kernel)
set_option maxRecDepth 20000 in
theorem gX8_copyWhole_X6_put : GoodIn wsX8_copyWhole (wsV RX8 71 RX6 yX6_put wsX6_put) := goodIn_app (goodIn_of _ (by decide +kernel)) ggX8_copyWhole_X6_put
set_option maxRecDepth 20000 in
theorem ggX8_copyBare_X6_keep : GoodIn wsX8_copyBare wsX6_keep := goodIn_r _ [6, 7, 38, 39] rfl (by decide +kernel)
set_option maxRecDepth 20000 in
theorem gX8_copyBare_X6_keep : GoodIn wsX8_copyBare (wsV RX8 59 RX6 yX6_keep wsX6_keep) := goodIn_app (goodIn_of _ (by decide +kernel)) ggX8_copyBare_X6_keep
set_option maxRecDepth 20000 in
theorem ggX8_copyBare_X6_size : GoodIn wsX8_copyBare wsX6_size := goodIn_r _ [11, 7, 38, 39] rfl (by decide +kernel)
set_option maxRecDepth 20000 in
theorem gX8_copyBare_X6_size : GoodIn wsX8_copyBare (wsV RX8 63 RX6 yX6_size wsX6_size) := goodIn_app (goodIn_of _ (by decide +kernel)) ggX8_copyBare_X6_size
set_option maxRecDepth 20000 in
theorem ggX8_copyBare_X6_at : GoodIn wsX8_copyBare wsX6_at := goodIn_r _ [15, 7, 16, 38, 39] rfl (by decide +kernel)
set_option maxRecDepth 20000 in
theorem gX8_copyBare_X6_at : GoodIn wsX8_copyBare (wsV RX8 67 RX6 yX6_at wsX6_at) := goodIn_app (goodIn_of _ (by decide +kernel)) ggX8_copyBare_X6_at
set_option maxRecDepth 20000 in
theorem ggX8_copyBare_X6_put : GoodIn wsX8_copyBare wsX6_put := goodIn_r _ [20, 7, 16, 21, 22, 23, 24, 25, 38, 39] rfl (by decide +kernel)
set_option maxRecDepth 20000 in
theorem gX8_copyBare_X6_put : GoodIn wsX8_copyBare (wsV RX8 71 RX6 yX6_put wsX6_put) := goodIn_app (goodIn_of _ (by decide +kernel)) ggX8_copyBare_X6_put
set_option maxRecDepth 20000 in
theorem ggX8_parse_X6_is : GoodIn wsX8_parse wsX6_is := goodIn_r2 cbX8_parse_f _ [(1, 10), (1, 11), (1, 12), (1, 13), (1, 14), (1, 15), (1, 16), (1, 17), (1, 18), (1, 19), (1, 20), (1, 21), (1, 22), (1, 23), (2, 0), (2, 1), (2, 2), (1, 9), (2, 3), (2, 4), (2, 5), (2, 6), (2, 7), (2, 8), (2, 9), (2, 10), (2, 11), (2, 12), (2, 13), (2, 14), (2, 15), (2, 16), (2, 17), (2, 18), (2, 19), (2, 20), (2, 21), (2, 22), (2, 23), (3, 0), (3, 1), (3, 2), (3, 3), (3, 4), (3, 5), (3, 6), (3, 7), (3, 8), (3, 9), (3, 10), (3, 11), (3, 12), (3, 13), (3, 14), (3, 15), (3, 16), (3, 17), (9, 0), (9, 1)] rfl (by decide +kernel)
set_option maxRecDepth 20000 in
theorem gX8_parse_X6_is : GoodIn wsX8_parse (wsV RX8 80 RX6 yX6_is wsX6_is) := goodIn_app (goodIn_of _ (by decide +kernel)) ggX8_parse_X6_is
set_option maxRecDepth 20000 in
theorem ggX8_parse_X6_at : GoodIn wsX8_parse wsX6_at := goodIn_r2 cbX8_parse_f _ [(3, 21), (1, 11), (2, 4), (9, 0), (9, 1)] rfl (by decide +kernel)
set_option maxRecDepth 20000 in
theorem gX8_parse_X6_at : GoodIn wsX8_parse (wsV RX8 67 RX6 yX6_at wsX6_at) := goodIn_app (goodIn_of _ (by decide +kernel)) ggX8_parse_X6_at
set_option maxRecDepth 20000 in
theorem ggX8_parse_X11_kindOf : GoodIn wsX8_parse wsX11_kindOf := goodIn_r2 cbX8_parse_f _ [(4, 0), (4, 1), (4, 2), (4, 3), (1, 15), (4, 4), (4, 5), (4, 6), (4, 7), (4, 8), (1, 17), (2, 9), (2, 10), (2, 11), (2, 12), (1, 22), (1, 23), (4, 9), (1, 13), (1, 14), (1, 16), (1, 18), (1, 19), (1, 20), (1, 21), (4, 10), (4, 11), (2, 15), (4, 12), (4, 13), (4, 14), (4, 15), (4, 16), (4, 17), (4, 18), (4, 19), (4, 20), (4, 21), (4, 22), (4, 23), (5, 0), (5, 1), (5, 2), (5, 3), (3, 3), (5, 4), (5, 5), (5, 6), (5, 7), (5, 8), (5, 9), (5, 10), (5, 11), (5, 12), (5, 13), (3, 8), (3, 9), (3, 10), (5, 14), (5, 15), (5, 16), (2, 20), (5, 17), (5, 18), (2, 23), (5, 19), (5, 20), (5, 21), (5, 22), (3, 12), (3, 13), (3, 14), (3, 15), (3, 16), (3, 17), (5, 23), (6, 0), (6, 1), (6, 2), (6, 3), (6, 4), (6, 5), (6, 6), (6, 7), (6, 8), (6, 9), (6, 10), (6, 11), (6, 12), (6, 13)] rfl (by decide +kernel)
set_option maxRecDepth 20000 in
theorem gX8_parse_X11_kindOf_n89 : GoodIn wsX8_parse (wsX11_kindOf) := ggX8_parse_X11_kindOf
set_option maxRecDepth 20000 in
theorem ggX8_parse_X6_size : GoodIn wsX8_parse wsX6_size := goodIn_r2 cbX8_parse_f _ [(6, 17), (1, 11), (9, 0), (9, 1)] rfl (by decide +kernel)
set_option maxRecDepth 20000 in
theorem gX8_parse_X6_size : GoodIn wsX8_parse (wsV RX8 63 RX6 yX6_size wsX6_size) := goodIn_app (goodIn_of _ (by decide +kernel)) ggX8_parse_X6_size
set_option maxRecDepth 20000 in
theorem ggX8_parse_X11_squareOf : GoodIn wsX8_parse wsX11_squareOf := goodIn_r2 cbX8_parse_f _ [(6, 19), (6, 20), (6, 21), (3, 23), (6, 22), (6, 23), (7, 0), (7, 1)] rfl (by decide +kernel)
set_option maxRecDepth 20000 in
theorem gX8_parse_X11_squareOf_n96 : GoodIn wsX8_parse (wsX11_squareOf) := ggX8_parse_X11_squareOf
set_option maxRecDepth 20000 in
theorem ggX8_parse_X8_parseApart : GoodIn wsX8_parse wsX8_parseApart := goodIn_r2 cbX8_parse_f _ [(7, 6), (7, 7), (7, 8), (1, 1), (1, 3), (3, 18), (3, 19), (3, 20), (1, 9), (3, 21), (1, 11), (2, 4), (6, 21), (3, 23), (6, 22), (7, 0), (7, 1), (8, 0), (8, 1), (8, 2), (8, 3), (8, 4), (8, 5), (8, 6), (8, 7), (8, 8), (8, 9), (8, 10), (8, 11), (9, 0), (9, 1)] rfl (by decide +kernel)
set_option maxRecDepth 20000 in
theorem gX8_parse_X8_parseApart : GoodIn wsX8_parse (wsV RX8 103 RX8 yX8_parseApart wsX8_parseApart) := goodIn_app (goodIn_of _ (by decide +kernel)) ggX8_parse_X8_parseApart
set_option maxRecDepth 20000 in
theorem ggX8_parseApart_X6_at : GoodIn wsX8_parseApart wsX6_at := goodIn_r _ [9, 10, 11, 29, 30] rfl (by decide +kernel)
set_option maxRecDepth 20000 in
theorem gX8_parseApart_X6_at : GoodIn wsX8_parseApart (wsV RX8 67 RX6 yX6_at wsX6_at) := goodIn_app (goodIn_of _ (by decide +kernel)) ggX8_parseApart_X6_at
set_option maxRecDepth 20000 in
theorem ggX8_parseApart_X11_isFile : GoodIn wsX8_parseApart wsX11_isFile := goodIn_r _ [14] rfl (by decide +kernel)
set_option maxRecDepth 20000 in
theorem gX8_parseApart_X11_isFile_n113 : GoodIn wsX8_parseApart (wsX11_isFile) := ggX8_parseApart_X11_isFile
set_option maxRecDepth 20000 in
theorem ggX8_parseApart_X11_isRank : GoodIn wsX8_parseApart wsX11_isRank := goodIn_r _ [16] rfl (by decide +kernel)
set_option maxRecDepth 20000 in
theorem gX8_parseApart_X11_isRank_n117 : GoodIn wsX8_parseApart (wsX11_isRank) := ggX8_parseApart_X11_isRank
set_option maxRecDepth 20000 in
theorem ggX8_gather_X0_castles : GoodIn wsX8_gather wsX0_castles := goodIn_r2 cbX8_gather_f _ [(1, 11), (1, 12), (7, 0), (7, 1), (7, 2), (7, 3), (7, 4), (7, 5), (7, 6)] rfl (by decide +kernel)
set_option maxRecDepth 20000 in
theorem gX8_gather_X0_castles : GoodIn wsX8_gather (wsV RX8 125 RX0 yX0_castles wsX0_castles) := goodIn_app (goodIn_of _ (by decide +kernel)) ggX8_gather_X0_castles
set_option maxRecDepth 20000 in
theorem ggX8_gather_X8_fitsFrom : GoodIn wsX8_gather wsX8_fitsFrom := goodIn_r2 cbX8_gather_f _ [(1, 17), (1, 18), (1, 19), (1, 1), (1, 3), (1, 20), (1, 21), (1, 22), (1, 4), (1, 7), (1, 8), (1, 9), (1, 10), (1, 11), (1, 12), (1, 23), (2, 0), (2, 1), (2, 2), (2, 3), (2, 4), (2, 5), (2, 6), (2, 7), (2, 8), (2, 9), (2, 10), (7, 0), (7, 1), (7, 2), (7, 3), (7, 4), (7, 5), (7, 6), (6, 0), (6, 1), (6, 2), (6, 3), (6, 4), (6, 5), (6, 6), (6, 7), (6, 8), (6, 9), (6, 10), (6, 11)] rfl (by decide +kernel)
set_option maxRecDepth 20000 in
theorem gX8_gather_X8_fitsFrom : GoodIn wsX8_gather (wsV RX8 128 RX8 yX8_fitsFrom wsX8_fitsFrom) := goodIn_app (goodIn_of _ (by decide +kernel)) ggX8_gather_X8_fitsFrom
set_option maxRecDepth 20000 in
theorem ggX8_gather_X0_reaches : GoodIn wsX8_gather wsX0_reaches := goodIn_r2 cbX8_gather_f _ [(2, 14), (1, 12), (2, 15), (2, 3), (2, 4), (2, 5), (1, 10), (2, 6), (2, 16), (2, 17), (2, 18), (2, 19), (2, 20), (2, 21), (2, 22), (2, 23), (3, 0), (3, 1), (1, 8), (1, 9), (1, 11), (3, 2), (3, 3), (3, 4), (3, 5), (3, 6), (7, 0), (7, 1), (7, 2), (7, 3), (7, 4), (7, 5), (7, 6)] rfl (by decide +kernel)
set_option maxRecDepth 20000 in
theorem gX8_gather_X0_reaches : GoodIn wsX8_gather (wsV RX8 132 RX0 yX0_reaches wsX0_reaches) := goodIn_app (goodIn_of _ (by decide +kernel)) ggX8_gather_X0_reaches
set_option maxRecDepth 20000 in
theorem ggX8_gather_X7_isSafe : GoodIn wsX8_gather wsX7_isSafe := goodIn_r2 cbX8_gather_f _ [(3, 11), (3, 12), (3, 13), (3, 14), (1, 8), (1, 9), (1, 10), (1, 11), (1, 12), (3, 15), (3, 16), (3, 17), (3, 18), (2, 21), (2, 22), (2, 23), (3, 0), (3, 19), (3, 20), (3, 21), (3, 22), (3, 23), (4, 0), (4, 1), (4, 2), (4, 3), (4, 4), (2, 15), (3, 6), (2, 20), (4, 5), (4, 6), (4, 7), (4, 8), (4, 9), (2, 3), (2, 4), (2, 5), (2, 6), (3, 1), (4, 10), (4, 11), (4, 12), (4, 13), (4, 14), (4, 15), (4, 16), (4, 17), (4, 18), (4, 19), (4, 20), (4, 21), (4, 22), (4, 23), (5, 0), (7, 0), (7, 1), (7, 2), (7, 3), (7, 4), (7, 5), (7, 6), (8, 0), (8, 1)] rfl (by decide +kernel)
set_option maxRecDepth 20000 in
theorem gX8_gather_X7_isSafe : GoodIn wsX8_gather (wsV RX8 135 RX7 yX7_isSafe wsX7_isSafe) := goodIn_app (goodIn_of _ (by decide +kernel)) ggX8_gather_X7_isSafe
set_option maxRecDepth 20000 in
theorem ggX8_fitsFrom_X0_castles : GoodIn wsX8_fitsFrom wsX0_castles := goodIn_r _ [13, 14, 27, 28, 29, 30, 31, 32, 33] rfl (by decide +kernel)
set_option maxRecDepth 20000 in
theorem gX8_fitsFrom_X0_castles : GoodIn wsX8_fitsFrom (wsV RX8 125 RX0 yX0_castles wsX0_castles) := goodIn_app (goodIn_of _ (by decide +kernel)) ggX8_fitsFrom_X0_castles
set_option maxRecDepth 20000 in
theorem ggX8_fitsFrom_X0_takes : GoodIn wsX8_fitsFrom wsX0_takes := goodIn_r _ [18, 14, 19, 20, 21, 12, 22, 27, 28, 29, 30, 31, 32, 33] rfl (by decide +kernel)
set_option maxRecDepth 20000 in
theorem gX8_fitsFrom_X0_takes : GoodIn wsX8_fitsFrom (wsV RX8 141 RX0 yX0_takes wsX0_takes) := goodIn_app (goodIn_of _ (by decide +kernel)) ggX8_fitsFrom_X0_takes
set_option maxRecDepth 20000 in
theorem ggX8_fitsFrom_X0_becomesAnother : GoodIn wsX8_fitsFrom wsX0_becomesAnother := goodIn_r _ [26, 19, 20, 21, 12, 22, 14, 27, 28, 29, 30, 31, 32, 33] rfl (by decide +kernel)
set_option maxRecDepth 20000 in
theorem gX8_fitsFrom_X0_becomesAnother : GoodIn wsX8_fitsFrom (wsV RX8 144 RX0 yX0_becomesAnother wsX0_becomesAnother) := goodIn_app (goodIn_of _ (by decide +kernel)) ggX8_fitsFrom_X0_becomesAnother
end
section
set_option maxRecDepth 20000 in
theorem ggX9_init_X7_init : GoodIn wsX9_init wsX7_init := goodIn_r _ [9, 10, 2, 3, 11, 12, 13, 14, 15, 16, 17, 18, 19, 20, 21, 22, 23, 24, 25, 26, 30, 31, 32, 33, 34, 35, 36, 27, 28] rfl (by decide +kernel)
set_option maxRecDepth 20000 in
theorem gX9_init_X7_init_n11 : GoodIn wsX9_init (wsX7_init) := ggX9_init_X7_init
set_option maxRecDepth 20000 in
theorem ggX9_putSigns_X0_castles : GoodIn wsX9_putSigns wsX0_castles := goodIn_r2 cbX9_putSigns_f _ [(1, 5), (1, 6), (9, 0), (9, 1), (9, 2), (9, 3), (9, 4), (9, 5), (9, 6)] rfl (by decide +kernel)
set_option maxRecDepth 20000 in
theorem gX9_putSigns_X0_castles : GoodIn wsX9_putSigns (wsV RX9 18 RX0 yX0_castles wsX0_castles) := goodIn_app (goodIn_of _ (by decide +kernel)) ggX9_putSigns_X0_castles
set_option maxRecDepth 20000 in
theorem ggX9_putSigns_X6_putText : GoodIn wsX9_putSigns wsX6_putText := goodIn_r2 cbX9_putSigns_f _ [(1, 11), (1, 12), (1, 13), (1, 14), (1, 15), (1, 16), (1, 17), (1, 18), (1, 19), (1, 20), (1, 21), (1, 22), (1, 23), (2, 0), (2, 1), (2, 2), (2, 3), (2, 4), (2, 5), (2, 6), (2, 7), (2, 8), (2, 9), (2, 10), (2, 11), (2, 12), (2, 13), (2, 14), (2, 15), (2, 16), (2, 17), (2, 18), (2, 19), (2, 20), (2, 21), (2, 22), (2, 23), (3, 0), (3, 1), (3, 2), (3, 3), (3, 4), (3, 5), (3, 6), (3, 7), (3, 8), (3, 9), (3, 10), (3, 11), (3, 12), (3, 13), (3, 14), (3, 15), (1, 10), (3, 16), (3, 17), (3, 18), (3, 19), (3, 20), (3, 21), (3, 22), (3, 23), (10, 0), (10, 1)] rfl (by decide +kernel)
set_option maxRecDepth 20000 in
theorem gX9_putSigns_X6_putText : GoodIn wsX9_putSigns (wsV RX9 28 RX6 yX6_putText wsX6_putText) := goodIn_app (goodIn_of _ (by decide +kernel)) ggX9_putSigns_X6_putText
set_option maxRecDepth 20000 in
theorem ggX9_putSigns_X0_takes : GoodIn wsX9_putSigns wsX0_takes := goodIn_r2 cbX9_putSigns_f _ [(4, 3), (1, 6), (4, 4), (4, 5), (4, 6), (1, 4), (4, 7), (9, 0), (9, 1), (9, 2), (9, 3), (9, 4), (9, 5), (9, 6)] rfl (by decide +kernel)
set_option maxRecDepth 20000 in
theorem gX9_putSigns_X0_takes : GoodIn wsX9_putSigns (wsV RX9 34 RX0 yX0_takes wsX0_takes) := goodIn_app (goodIn_of _ (by decide +kernel)) ggX9_putSigns_X0_takes
set_option maxRecDepth 20000 in
theorem ggX9_putSigns_X0_kindAt : GoodIn wsX9_putSigns wsX0_kindAt := goodIn_r2 cbX9_putSigns_f _ [(4, 7), (1, 6), (9, 0), (9, 1), (9, 2), (9, 3), (9, 4), (9, 5), (9, 6)] rfl (by decide +kernel)
set_option maxRecDepth 20000 in
theorem gX9_putSigns_X0_kindAt : GoodIn wsX9_putSigns (wsV RX9 37 RX0 yX0_kindAt wsX0_kindAt) := goodIn_app (goodIn_of _ (by decide +kernel)) ggX9_putSigns_X0_kindAt
set_option maxRecDepth 20000 in
theorem ggX9_putSigns_X11_letterOf : GoodIn wsX9_putSigns wsX11_letterOf := goodIn_r2 cbX9_putSigns_f _ [(4, 11), (4, 12), (2, 1), (2, 2), (1, 15), (2, 3), (1, 17), (2, 4), (2, 5), (2, 6), (2, 7), (1, 22), (1, 23), (2, 8), (2, 9), (2, 10), (2, 11), (2, 12), (2, 13), (2, 14), (2, 15), (2, 16), (2, 17), (2, 18), (2, 19), (2, 20), (2, 21), (2, 22), (2, 23), (3, 0), (3, 1), (3, 2), (3, 3), (3, 4), (3, 5), (3, 6), (3, 7), (3, 8), (3, 9), (3, 10), (3, 11), (3, 12)] rfl (by decide +kernel)
set_option maxRecDepth 20000 in
theorem gX9_putSigns_X11_letterOf_n41 : GoodIn wsX9_putSigns (wsX11_letterOf) := ggX9_putSigns_X11_letterOf
set_option maxRecDepth 20000 in
theorem ggX9_putSigns_X6_put : GoodIn wsX9_putSigns wsX6_put := goodIn_r2 cbX9_putSigns_f _ [(3, 16), (3, 17), (3, 18), (3, 19), (3, 20), (3, 21), (3, 22), (3, 23), (10, 0), (10, 1)] rfl (by decide +kernel)
set_option maxRecDepth 20000 in
theorem gX9_putSigns_X6_put : GoodIn wsX9_putSigns (wsV RX9 45 RX6 yX6_put wsX6_put) := goodIn_app (goodIn_of _ (by decide +kernel)) ggX9_putSigns_X6_put
set_option maxRecDepth 20000 in
theorem ggX9_putSigns_X9_putApart : GoodIn wsX9_putSigns wsX9_putApart := goodIn_r2 cbX9_putSigns_f _ [(4, 18), (4, 19), (1, 0), (4, 20), (4, 21), (4, 22), (1, 4), (4, 23), (1, 6), (5, 0), (4, 4), (4, 5), (4, 6), (4, 7), (5, 1), (5, 2), (5, 3), (5, 4), (5, 5), (5, 6), (5, 7), (5, 8), (5, 9), (5, 10), (1, 2), (1, 3), (1, 5), (5, 11), (5, 12), (5, 13), (5, 14), (5, 15), (5, 16), (5, 17), (5, 18), (5, 19), (5, 20), (5, 21), (5, 22), (5, 23), (6, 0), (6, 1), (6, 2), (6, 3), (6, 4), (6, 5), (6, 6), (6, 7), (6, 8), (3, 21), (3, 22), (3, 23), (6, 9), (6, 10), (6, 11), (6, 12), (6, 13), (6, 14), (6, 15), (6, 16), (6, 17), (6, 18), (6, 19), (6, 20), (6, 21), (6, 22), (6, 23), (7, 0), (7, 1), (7, 2), (7, 3), (7, 4), (7, 5), (7, 6), (7, 7), (4, 10), (7, 8), (4, 13), (3, 14), (3, 15), (1, 10), (3, 16), (3, 17), (3, 18), (3, 19), (3, 20), (7, 9), (7, 10), (9, 0), (9, 1), (9, 2), (9, 3), (9, 4), (9, 5), (9, 6), (8, 0), (11, 0), (11, 1), (10, 0), (10, 1)] rfl (by decide +kernel)
set_option maxRecDepth 20000 in
theorem gX9_putSigns_X9_putApart : GoodIn wsX9_putSigns (wsV RX9 49 RX9 yX9_putApart wsX9_putApart) := goodIn_app (goodIn_of _ (by decide +kernel)) ggX9_putSigns_X9_putApart
set_option maxRecDepth 20000 in
theorem ggX9_putSigns_X11_fileLetter : GoodIn wsX9_putSigns wsX11_fileLetter := goodIn_r2 cbX9_putSigns_f _ [(7, 8)] rfl (by decide +kernel)
set_option maxRecDepth 20000 in
theorem gX9_putSigns_X11_fileLetter_n53 : GoodIn wsX9_putSigns (wsX11_fileLetter) := ggX9_putSigns_X11_fileLetter
set_option maxRecDepth 20000 in
theorem ggX9_putSigns_X11_rankDigit : GoodIn wsX9_putSigns wsX11_rankDigit := goodIn_r2 cbX9_putSigns_f _ [(7, 10)] rfl (by decide +kernel)
set_option maxRecDepth 20000 in
theorem gX9_putSigns_X11_rankDigit_n56 : GoodIn wsX9_putSigns (wsX11_rankDigit) := ggX9_putSigns_X11_rankDigit
set_option maxRecDepth 20000 in
theorem ggX9_putSigns_X7_checkSign : GoodIn wsX9_putSigns wsX7_checkSign := goodIn_r2 cbX9_putSigns_f _ [(7, 14), (7, 15), (5, 21), (6, 4), (6, 5), (6, 6), (1, 4), (6, 7), (1, 6), (6, 8), (3, 21), (3, 22), (3, 23), (6, 9), (6, 10), (5, 0), (5, 15), (5, 5), (6, 11), (6, 12), (6, 13), (6, 14), (6, 15), (4, 4), (4, 5), (4, 6), (4, 7), (5, 10), (1, 2), (1, 3), (1, 5), (6, 16), (6, 17), (6, 18), (6, 19), (6, 20), (6, 21), (6, 22), (6, 23), (7, 0), (7, 1), (7, 2), (7, 3), (7, 4), (7, 5), (7, 6), (6, 0), (6, 1), (6, 2), (6, 3), (5, 6), (5, 7), (5, 8), (5, 9), (7, 16), (4, 21), (4, 22), (4, 23), (5, 1), (5, 2), (5, 3), (5, 4), (5, 11), (5, 12), (5, 13), (5, 14), (7, 17), (5, 17), (5, 18), (5, 19), (5, 20), (5, 22), (5, 23), (11, 0), (11, 1), (9, 0), (9, 1), (9, 2), (9, 3), (9, 4), (9, 5), (9, 6)] rfl (by decide +kernel)
set_option maxRecDepth 20000 in
theorem gX9_putSigns_X7_checkSign : GoodIn wsX9_putSigns (wsV RX9 59 RX7 yX7_checkSign wsX7_checkSign) := goodIn_app (goodIn_of _ (by decide +kernel)) ggX9_putSigns_X7_checkSign
set_option maxRecDepth 20000 in
theorem ggX9_putApart_X0_reaches : GoodIn wsX9_putApart wsX0_reaches := goodIn_r2 cbX9_putApart_f _ [(1, 6), (1, 7), (1, 8), (1, 9), (1, 10), (1, 11), (1, 5), (1, 12), (1, 13), (1, 14), (1, 15), (1, 16), (1, 17), (1, 18), (1, 19), (1, 20), (1, 21), (1, 22), (1, 23), (2, 0), (2, 1), (2, 2), (2, 3), (2, 4), (2, 5), (2, 6), (5, 0), (5, 1), (5, 2), (5, 3), (5, 4), (5, 5), (5, 6)] rfl (by decide +kernel)
set_option maxRecDepth 20000 in
theorem gX9_putApart_X0_reaches : GoodIn wsX9_putApart (wsV RX9 67 RX0 yX0_reaches wsX0_reaches) := goodIn_app (goodIn_of _ (by decide +kernel)) ggX9_putApart_X0_reaches
set_option maxRecDepth 20000 in
theorem ggX9_putApart_X7_isSafe : GoodIn wsX9_putApart wsX7_isSafe := goodIn_r2 cbX9_putApart_f _ [(2, 11), (2, 12), (2, 13), (2, 14), (1, 23), (2, 0), (1, 5), (2, 1), (1, 7), (2, 15), (2, 16), (2, 17), (2, 18), (1, 18), (1, 19), (1, 20), (1, 21), (2, 19), (2, 20), (2, 21), (2, 22), (2, 23), (3, 0), (3, 1), (3, 2), (3, 3), (3, 4), (1, 8), (2, 6), (1, 17), (3, 5), (3, 6), (3, 7), (3, 8), (3, 9), (1, 9), (1, 10), (1, 11), (1, 12), (1, 22), (3, 10), (3, 11), (3, 12), (3, 13), (3, 14), (3, 15), (3, 16), (3, 17), (3, 18), (3, 19), (3, 20), (3, 21), (3, 22), (3, 23), (4, 0), (5, 0), (5, 1), (5, 2), (5, 3), (5, 4), (5, 5), (5, 6), (7, 0), (7, 1)] rfl (by decide +kernel)
set_option maxRecDepth 20000 in
theorem gX9_putApart_X7_isSafe : GoodIn wsX9_putApart (wsV RX9 70 RX7 yX7_isSafe wsX7_isSafe) := goodIn_app (goodIn_of _ (by decide +kernel)) ggX9_putApart_X7_isSafe
set_option maxRecDepth 20000 in
theorem ggX9_putApart_X11_fileLetter : GoodIn wsX9_putApart wsX11_fileLetter := goodIn_r2 cbX9_putApart_f _ [(4, 3)] rfl (by decide +kernel)
set_option maxRecDepth 20000 in
theorem gX9_putApart_X11_fileLetter_n53 : GoodIn wsX9_putApart (wsX11_fileLetter) := ggX9_putApart_X11_fileLetter
set_option maxRecDepth 20000 in
theorem ggX9_putApart_X6_put : GoodIn wsX9_putApart wsX6_put := goodIn_r2 cbX9_putApart_f _ [(4, 8), (4, 9), (4, 10), (4, 11), (4, 12), (3, 0), (3, 1), (3, 2), (8, 0), (8, 1)] rfl (by decide +kernel)
set_option maxRecDepth 20000 in
theorem gX9_putApart_X6_put : GoodIn wsX9_putApart (wsV RX9 45 RX6 yX6_put wsX6_put) := goodIn_app (goodIn_of _ (by decide +kernel)) ggX9_putApart_X6_put
set_option maxRecDepth 20000 in
theorem ggX9_putApart_X11_rankDigit : GoodIn wsX9_putApart wsX11_rankDigit := goodIn_r2 cbX9_putApart_f _ [(4, 14)] rfl (by decide +kernel)
set_option maxRecDepth 20000 in
theorem gX9_putApart_X11_rankDigit_n56 : GoodIn wsX9_putApart (wsX11_rankDigit) := ggX9_putApart_X11_rankDigit
end
section
set_option maxRecDepth 20000 in
theorem ggX10_init_X6_init : GoodIn wsX10_init wsX6_init := goodIn_r _ [10, 11, 2, 3, 12, 13, 14, 15, 16] rfl (by decide +kernel)
set_option maxRecDepth 20000 in
theorem gX10_init_X6_init_n9 : GoodIn wsX10_init (wsX6_init) := ggX10_init_X6_init
end
