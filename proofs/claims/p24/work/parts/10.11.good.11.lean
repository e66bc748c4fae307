section
set_option maxRecDepth 20000 in
theorem ggX11_init_X6_init : GoodIn wsX11_init wsX6_init := goodIn_r2 cbX11_init_f _ [(2, 14), (2, 15), (1, 1), (1, 2), (2, 16), (2, 17), (2, 18), (8, 0), (8, 1)] rfl (by decide +kernel)
set_option maxRecDepth 20000 in
theorem gX11_init_X6_init_n9 : GoodIn wsX11_init (wsX6_init) := ggX11_init_X6_init
set_option maxRecDepth 20000 in
theorem ggX11_init_X7_init : GoodIn wsX11_init wsX7_init := goodIn_r2 cbX11_init_f _ [(2, 20), (2, 21), (1, 1), (1, 2), (2, 22), (2, 10), (2, 11), (2, 23), (3, 0), (3, 1), (3, 2), (3, 3), (3, 4), (3, 5), (3, 6), (3, 7), (3, 8), (3, 9), (3, 10), (3, 11), (16, 0), (16, 1), (16, 2), (16, 3), (16, 4), (16, 5), (16, 6), (10, 0), (10, 1)] rfl (by decide +kernel)
set_option maxRecDepth 20000 in
theorem gX11_init_X7_init_n21 : GoodIn wsX11_init (wsX7_init) := ggX11_init_X7_init
set_option maxRecDepth 20000 in
theorem ggX11_init_X8_init : GoodIn wsX11_init wsX8_init := goodIn_r2 cbX11_init_f _ [(3, 13), (3, 14), (1, 1), (1, 2), (3, 15), (1, 9), (1, 10), (3, 16), (3, 17), (1, 4), (1, 5), (3, 18), (3, 4), (3, 19), (2, 19), (2, 20), (2, 21), (2, 22), (2, 10), (2, 11), (2, 23), (3, 0), (3, 1), (3, 2), (3, 3), (3, 5), (3, 6), (3, 7), (3, 8), (3, 9), (3, 10), (3, 11), (2, 13), (2, 14), (2, 15), (2, 16), (2, 17), (2, 18), (10, 0), (10, 1), (11, 0), (11, 1), (11, 2), (11, 3), (11, 4), (11, 5), (11, 6), (11, 7), (11, 8), (11, 9), (11, 10), (11, 11), (8, 0), (8, 1), (16, 0), (16, 1), (16, 2), (16, 3), (16, 4), (16, 5), (16, 6)] rfl (by decide +kernel)
set_option maxRecDepth 20000 in
theorem gX11_init_X8_init_n28 : GoodIn wsX11_init (wsX8_init) := ggX11_init_X8_init
set_option maxRecDepth 20000 in
theorem ggX11_init_X9_init : GoodIn wsX11_init wsX9_init := goodIn_r2 cbX11_init_f _ [(3, 21), (3, 22), (1, 1), (1, 2), (3, 23), (1, 9), (1, 10), (4, 0), (2, 19), (2, 20), (2, 21), (2, 22), (2, 10), (2, 11), (2, 23), (3, 0), (3, 1), (3, 2), (3, 3), (3, 4), (3, 5), (3, 6), (3, 7), (3, 8), (3, 9), (3, 10), (3, 11), (10, 0), (10, 1), (12, 0), (16, 0), (16, 1), (16, 2), (16, 3), (16, 4), (16, 5), (16, 6)] rfl (by decide +kernel)
set_option maxRecDepth 20000 in
theorem gX11_init_X9_init_n35 : GoodIn wsX11_init (wsX9_init) := ggX11_init_X9_init
set_option maxRecDepth 20000 in
theorem ggX11_init_X2_init : GoodIn wsX11_init wsX2_init := goodIn_r2 cbX11_init_f _ [(4, 3), (4, 4), (1, 1), (1, 2), (4, 5), (1, 13), (1, 14), (4, 6), (4, 7), (4, 8), (4, 9), (4, 10), (4, 11), (1, 4), (1, 5), (4, 12), (4, 13), (2, 5), (2, 6), (4, 14), (4, 15), (4, 16), (4, 17), (4, 18), (3, 4), (4, 19), (4, 20), (4, 21), (4, 22), (4, 23), (2, 10), (2, 11), (3, 12), (3, 13), (3, 14), (3, 15), (1, 9), (1, 10), (3, 16), (3, 17), (3, 18), (3, 19), (2, 19), (2, 20), (2, 21), (2, 22), (2, 23), (3, 0), (3, 1), (3, 2), (3, 3), (3, 5), (3, 6), (3, 7), (3, 8), (3, 9), (3, 10), (3, 11), (2, 13), (2, 14), (2, 15), (2, 16), (2, 17), (2, 18), (5, 0), (5, 1), (5, 2), (5, 3), (5, 4), (5, 5), (5, 6), (5, 7), (5, 8), (5, 9), (5, 10), (5, 11), (5, 12), (5, 13), (5, 14), (5, 15), (5, 16), (5, 17), (5, 18), (5, 19), (5, 20), (5, 21), (5, 22), (5, 23), (6, 0), (6, 1), (6, 2), (6, 3), (6, 4), (6, 5), (6, 6), (6, 7), (6, 8), (6, 9), (6, 10), (6, 11), (6, 12), (6, 13), (6, 14), (6, 15), (6, 16), (6, 17), (6, 18), (6, 19), (6, 20), (6, 21), (6, 22), (11, 0), (11, 1), (11, 2), (11, 3), (11, 4), (11, 5), (11, 6), (11, 7), (11, 8), (11, 9), (11, 10), (11, 11), (13, 0), (13, 1), (13, 2), (13, 3), (13, 4), (13, 5), (13, 6), (13, 7), (13, 8), (13, 9), (13, 10), (13, 11), (17, 0), (17, 1), (8, 0), (8, 1), (15, 0), (15, 1), (15, 2), (15, 3), (15, 4), (15, 5), (15, 6), (15, 7), (16, 0), (16, 1), (16, 2), (16, 3), (16, 4), (16, 5), (16, 6), (10, 0), (10, 1), (18, 0), (18, 1), (18, 2), (18, 3), (18, 4), (18, 5), (18, 6)] rfl (by decide +kernel)
set_option maxRecDepth 20000 in
theorem gX11_init_X2_init : GoodIn wsX11_init (wsX2_init) := ggX11_init_X2_init
set_option maxRecDepth 20000 in
theorem ggX11_init_X3_init : GoodIn wsX11_init wsX3_init := goodIn_r2 cbX11_init_f _ [(7, 1), (7, 2), (1, 1), (1, 2), (7, 3), (1, 17), (1, 18), (7, 4), (7, 5), (7, 6), (2, 10), (2, 11), (3, 20), (3, 21), (3, 22), (3, 23), (1, 9), (1, 10), (4, 0), (2, 19), (2, 20), (2, 21), (2, 22), (2, 23), (3, 0), (3, 1), (3, 2), (3, 3), (3, 4), (3, 5), (3, 6), (3, 7), (3, 8), (3, 9), (3, 10), (3, 11), (12, 0), (14, 0), (14, 1), (16, 0), (16, 1), (16, 2), (16, 3), (16, 4), (16, 5), (16, 6), (10, 0), (10, 1)] rfl (by decide +kernel)
set_option maxRecDepth 20000 in
theorem gX11_init_X3_init : GoodIn wsX11_init (wsX3_init) := ggX11_init_X3_init
set_option maxRecDepth 20000 in
theorem ggX11_init_X1_init : GoodIn wsX11_init wsX1_init := goodIn_r2 cbX11_init_f _ [(5, 8), (5, 9), (1, 1), (1, 2), (5, 10), (2, 10), (2, 11), (5, 11), (5, 12), (5, 13), (5, 14), (5, 15), (5, 16), (5, 17), (5, 18), (5, 19), (5, 20), (5, 21), (3, 4), (5, 22), (3, 1), (3, 2), (3, 3), (3, 5), (3, 6), (3, 7), (3, 8), (3, 9), (3, 10), (3, 11), (5, 23), (6, 0), (6, 1), (6, 2), (6, 3), (6, 4), (6, 5), (6, 6), (6, 7), (6, 8), (1, 4), (1, 5), (6, 9), (2, 13), (2, 14), (2, 15), (2, 16), (2, 17), (2, 18), (6, 10), (6, 11), (6, 12), (6, 13), (6, 14), (6, 15), (6, 16), (6, 17), (6, 18), (6, 19), (6, 20), (6, 21), (6, 22), (16, 0), (16, 1), (16, 2), (16, 3), (16, 4), (16, 5), (16, 6), (15, 0), (15, 1), (15, 2), (15, 3), (15, 4), (15, 5), (15, 6), (15, 7), (18, 0), (18, 1), (18, 2), (18, 3), (18, 4), (18, 5), (18, 6), (8, 0), (8, 1)] rfl (by decide +kernel)
set_option maxRecDepth 20000 in
theorem gX11_init_X1_init : GoodIn wsX11_init (wsX1_init) := ggX11_init_X1_init
set_option maxRecDepth 20000 in
theorem ggX11_init_X0_init : GoodIn wsX11_init wsX0_init := goodIn_r2 cbX11_init_f _ [(3, 2), (3, 3), (1, 1), (1, 2), (3, 4), (3, 5), (3, 6), (3, 7), (3, 8), (3, 9), (3, 10), (3, 11), (16, 0), (16, 1), (16, 2), (16, 3), (16, 4), (16, 5), (16, 6)] rfl (by decide +kernel)
set_option maxRecDepth 20000 in
theorem gX11_init_X0_init_n67 : GoodIn wsX11_init (wsX0_init) := ggX11_init_X0_init
set_option maxRecDepth 20000 in
theorem ggX11_init_X0_setUp : GoodIn wsX11_init wsX0_setUp := goodIn_r2 cbX11_init_f _ [(6, 13), (6, 14), (3, 9), (6, 15), (6, 16), (6, 17), (2, 11), (6, 18), (3, 5), (3, 8), (3, 10), (3, 11), (6, 19), (6, 20), (6, 21), (6, 22), (3, 6), (3, 7), (16, 0), (16, 1), (16, 2), (16, 3), (16, 4), (16, 5), (16, 6)] rfl (by decide +kernel)
set_option maxRecDepth 20000 in
theorem gX11_init_X0_setUp : GoodIn wsX11_init (wsV RX11 72 RX0 yX0_setUp wsX0_setUp) := goodIn_app (goodIn_of _ (by decide +kernel)) ggX11_init_X0_setUp
set_option maxRecDepth 20000 in
theorem ggX11_type_X6_size : GoodIn wsX11_type wsX6_size := goodIn_r _ [6, 7, 33, 34] rfl (by decide +kernel)
set_option maxRecDepth 20000 in
theorem gX11_type_X6_size : GoodIn wsX11_type (wsV RX11 75 RX6 yX6_size wsX6_size) := goodIn_app (goodIn_of _ (by decide +kernel)) ggX11_type_X6_size
set_option maxRecDepth 20000 in
theorem ggX11_type_X11_byteOf : GoodIn wsX11_type wsX11_byteOf := goodIn_r _ [11, 12] rfl (by decide +kernel)
set_option maxRecDepth 20000 in
theorem gX11_type_X11_byteOf : GoodIn wsX11_type (va_wsS RX11 79 yX11_byteOf wsX11_byteOf) := goodIn_app (goodIn_of _ (by decide +kernel)) ggX11_type_X11_byteOf
set_option maxRecDepth 20000 in
theorem ggX11_type_X6_put : GoodIn wsX11_type wsX6_put := goodIn_r _ [16, 7, 17, 18, 19, 20, 21, 22, 33, 34] rfl (by decide +kernel)
set_option maxRecDepth 20000 in
theorem gX11_type_X6_put : GoodIn wsX11_type (wsV RX11 83 RX6 yX6_put wsX6_put) := goodIn_app (goodIn_of _ (by decide +kernel)) ggX11_type_X6_put
set_option maxRecDepth 20000 in
theorem ggX11_cut_X6_size : GoodIn wsX11_cut wsX6_size := goodIn_r _ [6, 7, 22, 23] rfl (by decide +kernel)
set_option maxRecDepth 20000 in
theorem gX11_cut_X6_size : GoodIn wsX11_cut (wsV RX11 75 RX6 yX6_size wsX6_size) := goodIn_app (goodIn_of _ (by decide +kernel)) ggX11_cut_X6_size
set_option maxRecDepth 20000 in
theorem ggX11_cut_X6_keep : GoodIn wsX11_cut wsX6_keep := goodIn_r _ [11, 7, 22, 23] rfl (by decide +kernel)
set_option maxRecDepth 20000 in
theorem gX11_cut_X6_keep : GoodIn wsX11_cut (wsV RX11 87 RX6 yX6_keep wsX6_keep) := goodIn_app (goodIn_of _ (by decide +kernel)) ggX11_cut_X6_keep
set_option maxRecDepth 20000 in
theorem ggX11_read_X2_begin : GoodIn wsX11_read wsX2_begin := goodIn_r2 cbX11_read_f _ [(1, 9), (1, 10), (1, 11), (1, 12), (1, 13), (1, 14), (1, 15), (1, 16), (1, 17), (1, 18), (1, 19), (1, 20), (1, 21), (1, 22), (1, 23), (2, 0), (2, 1), (2, 2), (2, 3), (2, 4), (2, 5), (2, 6), (2, 7), (2, 8), (2, 9), (2, 10), (2, 11), (2, 12), (2, 13), (2, 14), (2, 15), (2, 16), (2, 17), (2, 18), (2, 19), (2, 20), (2, 21), (2, 22), (2, 23), (3, 0), (3, 1), (3, 2), (3, 3), (3, 4), (3, 5), (3, 6), (3, 7), (3, 8), (3, 9), (3, 10), (3, 11), (3, 12), (3, 13), (3, 14), (28, 0), (28, 1), (28, 2), (28, 3), (28, 4), (28, 5), (28, 6), (28, 7), (28, 8), (28, 9), (28, 10), (28, 11), (29, 0), (29, 1), (29, 2), (29, 3), (29, 4), (29, 5), (29, 6), (29, 7), (30, 0), (30, 1), (30, 2), (30, 3), (30, 4), (30, 5), (30, 6), (31, 0), (31, 1), (31, 2), (31, 3), (31, 4), (31, 5), (31, 6), (32, 0), (32, 1)] rfl (by decide +kernel)
set_option maxRecDepth 20000 in
theorem gX11_read_X2_begin : GoodIn wsX11_read (wsV RX11 91 RX2 yX2_begin wsX2_begin) := goodIn_app (goodIn_of _ (by decide +kernel)) ggX11_read_X2_begin
set_option maxRecDepth 20000 in
theorem ggX11_read_X2_readHead : GoodIn wsX11_read wsX2_readHead := goodIn_r2 cbX11_read_f _ [(3, 18), (1, 10), (1, 12), (1, 11), (3, 19), (3, 20), (3, 21), (1, 8), (3, 22), (3, 23), (4, 0), (4, 1), (3, 12), (4, 2), (3, 14), (4, 3), (4, 4), (4, 5), (4, 6), (4, 7), (4, 8), (4, 9), (4, 10), (4, 11), (4, 12), (4, 13), (4, 14), (4, 15), (4, 16), (4, 17), (4, 18), (4, 19), (4, 20), (4, 21), (3, 10), (3, 11), (3, 13), (4, 22), (4, 23), (5, 0), (5, 1), (5, 2), (5, 3), (5, 4), (5, 5), (5, 6), (5, 7), (5, 8), (5, 9), (5, 10), (5, 11), (5, 12), (5, 13), (5, 14), (5, 15), (1, 13), (5, 16), (5, 17), (5, 18), (5, 19), (5, 20), (5, 21), (5, 22), (1, 17), (5, 23), (1, 22), (6, 0), (6, 1), (6, 2), (6, 3), (6, 4), (6, 5), (6, 6), (6, 7), (6, 8), (6, 9), (6, 10), (6, 11), (6, 12), (6, 13), (6, 14), (6, 15), (6, 16), (6, 17), (6, 18), (6, 19), (6, 20), (6, 21), (6, 22), (6, 23), (7, 0), (7, 1), (7, 2), (7, 3), (7, 4), (7, 5), (7, 6), (7, 7), (7, 8), (7, 9), (7, 10), (7, 11), (7, 12), (7, 13), (7, 14), (7, 15), (7, 16), (7, 17), (7, 18), (7, 19), (7, 20), (7, 21), (7, 22), (7, 23), (8, 0), (8, 1), (8, 2), (8, 3), (8, 4), (8, 5), (8, 6), (8, 7), (8, 8), (8, 9), (8, 10), (8, 11), (8, 12), (8, 13), (8, 14), (8, 15), (8, 16), (8, 17), (8, 18), (8, 19), (8, 20), (8, 21), (8, 22), (8, 23), (9, 0), (9, 1), (9, 2), (9, 3), (9, 4), (9, 5), (9, 6), (9, 7), (9, 8), (9, 9), (9, 10), (9, 11), (9, 12), (9, 13), (9, 14), (9, 15), (9, 16), (9, 17), (9, 18), (9, 19), (2, 8), (2, 9), (2, 3), (2, 10), (2, 11), (2, 12), (2, 6), (2, 13), (2, 14), (9, 20), (9, 21), (9, 22), (9, 23), (10, 0), (10, 1), (10, 2), (10, 3), (10, 4), (10, 5), (10, 6), (10, 7), (10, 8), (10, 9), (10, 10), (10, 11), (10, 12), (10, 13), (10, 14), (10, 15), (10, 16), (10, 17), (10, 18), (10, 19), (10, 20), (10, 21), (10, 22), (10, 23), (11, 0), (11, 1), (11, 2), (11, 3), (11, 4), (11, 5), (11, 6), (11, 7), (11, 8), (11, 9), (11, 10), (11, 11), (11, 12), (11, 13), (11, 14), (11, 15), (11, 16), (11, 17), (11, 18), (11, 19), (11, 20), (11, 21), (11, 22), (11, 23), (12, 0), (12, 1), (12, 2), (12, 3), (12, 4), (12, 5), (12, 6), (12, 7), (12, 8), (12, 9), (12, 10), (12, 11), (12, 12), (12, 13), (12, 14), (12, 15), (12, 16), (12, 17), (12, 18), (12, 19), (12, 20), (12, 21), (12, 22), (12, 23), (13, 0), (2, 16), (2, 17), (2, 18), (2, 19), (2, 20), (13, 1), (13, 2), (13, 3), (13, 4), (13, 5), (13, 6), (13, 7), (13, 8), (13, 9), (13, 10), (13, 11), (13, 12), (13, 13), (13, 14), (13, 15), (13, 16), (13, 17), (13, 18), (13, 19), (13, 20), (13, 21), (13, 22), (13, 23), (14, 0), (14, 1), (14, 2), (14, 3), (14, 4), (14, 5), (14, 6), (14, 7), (14, 8), (14, 9), (14, 10), (14, 11), (14, 12), (14, 13), (14, 14), (14, 15), (14, 16), (14, 17), (14, 18), (14, 19), (14, 20), (14, 21), (14, 22), (14, 23), (15, 0), (15, 1), (15, 2), (15, 3), (15, 4), (15, 5), (15, 6), (15, 7), (15, 8), (15, 9), (15, 10), (15, 11), (15, 12), (15, 13), (15, 14), (15, 15), (15, 16), (15, 17), (15, 18), (15, 19), (15, 20), (15, 21), (15, 22), (15, 23), (16, 0), (16, 1), (16, 2), (16, 3), (16, 4), (16, 5), (16, 6), (16, 7), (16, 8), (16, 9), (1, 21), (16, 10), (1, 20), (16, 11), (16, 12), (16, 13), (16, 14), (16, 15), (16, 16), (16, 17), (16, 18), (16, 19), (16, 20), (16, 21), (16, 22), (16, 23), (17, 0), (17, 1), (17, 2), (17, 3), (3, 0), (17, 4), (3, 8), (17, 5), (17, 6), (17, 7), (28, 0), (28, 1), (28, 2), (28, 3), (28, 4), (28, 5), (28, 6), (28, 7), (28, 8), (28, 9), (28, 10), (28, 11), (32, 0), (32, 1), (29, 0), (29, 1), (29, 2), (29, 3), (29, 4), (29, 5), (29, 6), (29, 7), (33, 0), (33, 1), (34, 0), (34, 1), (30, 0), (30, 1), (30, 2), (30, 3), (30, 4), (30, 5), (30, 6), (31, 0), (31, 1), (31, 2), (31, 3), (31, 4), (31, 5), (31, 6)] rfl (by decide +kernel)
set_option maxRecDepth 20000 in
theorem gX11_read_X2_readHead : GoodIn wsX11_read (wsV RX11 95 RX2 yX2_readHead wsX2_readHead) := goodIn_app (goodIn_of _ (by decide +kernel)) ggX11_read_X2_readHead
set_option maxRecDepth 20000 in
theorem ggX11_read_X2_readMoves : GoodIn wsX11_read wsX2_readMoves := goodIn_r2 cbX11_read_f _ [(17, 11), (17, 12), (17, 13), (17, 14), (1, 11), (4, 16), (1, 10), (1, 12), (17, 15), (17, 16), (17, 17), (2, 3), (17, 18), (2, 11), (17, 19), (5, 9), (5, 10), (5, 11), (2, 19), (2, 20), (2, 12), (2, 6), (2, 13), (2, 14), (3, 19), (3, 20), (3, 21), (1, 8), (3, 22), (3, 23), (4, 0), (4, 1), (3, 12), (4, 2), (3, 14), (4, 3), (4, 4), (4, 5), (4, 6), (4, 7), (17, 20), (17, 21), (17, 22), (17, 23), (18, 0), (4, 23), (18, 1), (18, 2), (7, 20), (7, 21), (7, 22), (7, 7), (7, 8), (7, 9), (7, 10), (7, 11), (7, 12), (7, 13), (7, 14), (7, 15), (7, 16), (7, 17), (7, 18), (7, 23), (8, 0), (8, 1), (8, 2), (8, 3), (8, 4), (8, 5), (8, 6), (8, 7), (8, 8), (8, 9), (8, 10), (8, 11), (8, 12), (8, 13), (8, 14), (8, 15), (8, 16), (8, 17), (8, 18), (8, 19), (8, 20), (8, 21), (8, 22), (8, 23), (9, 0), (9, 1), (9, 2), (9, 3), (9, 4), (9, 5), (9, 6), (9, 7), (9, 8), (9, 9), (9, 10), (9, 11), (5, 12), (5, 13), (5, 14), (5, 15), (1, 13), (18, 3), (18, 4), (18, 5), (18, 6), (18, 7), (18, 8), (16, 6), (16, 7), (16, 8), (1, 17), (16, 9), (1, 21), (16, 10), (1, 20), (16, 11), (16, 12), (16, 13), (16, 14), (16, 15), (16, 16), (16, 17), (16, 18), (16, 19), (11, 4), (11, 1), (11, 5), (16, 20), (16, 21), (16, 22), (16, 23), (17, 0), (11, 0), (11, 2), (17, 1), (17, 2), (17, 3), (3, 0), (17, 4), (3, 8), (17, 5), (17, 6), (5, 4), (5, 5), (5, 6), (5, 7), (5, 8), (17, 7), (18, 9), (18, 10), (18, 11), (18, 12), (18, 13), (18, 14), (5, 1), (5, 2), (18, 15), (18, 16), (18, 17), (18, 18), (18, 19), (18, 20), (18, 21), (18, 22), (4, 22), (5, 0), (18, 23), (19, 0), (19, 1), (19, 2), (19, 3), (19, 4), (19, 5), (19, 6), (19, 7), (19, 8), (19, 9), (19, 10), (19, 11), (19, 12), (19, 13), (19, 14), (19, 15), (19, 16), (19, 17), (19, 18), (19, 19), (19, 20), (19, 21), (3, 10), (3, 11), (3, 13), (19, 22), (19, 23), (20, 0), (20, 1), (20, 2), (20, 3), (20, 4), (20, 5), (20, 6), (20, 7), (20, 8), (20, 9), (7, 4), (7, 5), (7, 6), (7, 19), (20, 10), (20, 11), (20, 12), (10, 12), (10, 13), (10, 14), (10, 15), (10, 16), (10, 17), (10, 18), (10, 19), (10, 20), (10, 21), (10, 22), (10, 23), (11, 3), (11, 6), (11, 7), (11, 8), (11, 9), (11, 10), (11, 11), (11, 12), (11, 13), (11, 14), (11, 15), (11, 16), (11, 17), (11, 18), (11, 19), (11, 20), (11, 21), (11, 22), (11, 23), (12, 0), (12, 1), (12, 2), (12, 3), (12, 4), (12, 5), (12, 6), (12, 7), (12, 8), (12, 9), (12, 10), (12, 11), (12, 12), (12, 13), (12, 14), (12, 15), (12, 16), (12, 17), (12, 18), (12, 19), (12, 20), (12, 21), (12, 22), (12, 23), (13, 18), (13, 19), (13, 20), (13, 21), (13, 22), (13, 23), (10, 9), (10, 10), (20, 13), (20, 14), (20, 15), (20, 16), (20, 17), (20, 18), (20, 19), (20, 20), (20, 21), (20, 22), (20, 23), (21, 0), (21, 1), (21, 2), (21, 3), (21, 4), (21, 5), (21, 6), (21, 7), (21, 8), (21, 9), (21, 10), (21, 11), (21, 12), (21, 13), (14, 15), (14, 16), (14, 17), (21, 14), (21, 15), (21, 16), (21, 17), (21, 18), (21, 19), (21, 20), (21, 21), (21, 22), (21, 23), (22, 0), (22, 1), (15, 2), (15, 3), (15, 4), (15, 5), (22, 2), (22, 3), (22, 4), (22, 5), (22, 6), (22, 7), (22, 8), (22, 9), (22, 10), (22, 11), (22, 12), (22, 13), (22, 14), (22, 15), (14, 23), (15, 0), (15, 1), (22, 16), (22, 17), (22, 18), (22, 19), (22, 20), (2, 15), (2, 16), (2, 17), (2, 18), (22, 21), (22, 22), (22, 23), (23, 0), (15, 13), (15, 14), (15, 15), (23, 1), (14, 19), (14, 20), (14, 21), (23, 2), (23, 3), (23, 4), (23, 5), (23, 6), (23, 7), (23, 8), (23, 9), (23, 10), (23, 11), (23, 12), (23, 13), (23, 14), (23, 15), (23, 16), (23, 17), (23, 18), (23, 19), (23, 20), (23, 21), (23, 22), (23, 23), (24, 0), (24, 1), (24, 2), (24, 3), (24, 4), (24, 5), (6, 12), (6, 13), (3, 2), (3, 3), (3, 4), (3, 5), (3, 6), (3, 7), (24, 6), (6, 15), (6, 18), (6, 19), (6, 20), (6, 21), (2, 21), (2, 22), (2, 23), (3, 1), (3, 9), (24, 7), (24, 8), (24, 9), (24, 10), (24, 11), (24, 12), (24, 13), (24, 14), (24, 15), (24, 16), (24, 17), (24, 18), (24, 19), (24, 20), (24, 21), (24, 22), (24, 23), (28, 0), (28, 1), (28, 2), (28, 3), (28, 4), (28, 5), (28, 6), (28, 7), (28, 8), (28, 9), (28, 10), (28, 11), (29, 0), (29, 1), (29, 2), (29, 3), (29, 4), (29, 5), (29, 6), (29, 7), (30, 0), (30, 1), (30, 2), (30, 3), (30, 4), (30, 5), (30, 6), (32, 0), (32, 1), (31, 0), (31, 1), (31, 2), (31, 3), (31, 4), (31, 5), (31, 6), (35, 0), (35, 1), (35, 2), (35, 3), (35, 4), (35, 5), (35, 6), (35, 7), (35, 8), (35, 9), (35, 10), (35, 11), (36, 0), (36, 1)] rfl (by decide +kernel)
set_option maxRecDepth 20000 in
theorem gX11_read_X2_readMoves : GoodIn wsX11_read (wsV RX11 99 RX2 yX2_readMoves wsX2_readMoves) := goodIn_app (goodIn_of _ (by decide +kernel)) ggX11_read_X2_readMoves
set_option maxRecDepth 20000 in
theorem ggX11_read_X2_readEnd : GoodIn wsX11_read wsX2_readEnd := goodIn_r2 cbX11_read_f _ [(25, 3), (1, 11), (1, 12), (25, 4), (1, 10), (17, 20), (17, 21), (17, 22), (1, 8), (17, 23), (18, 0), (4, 23), (18, 1), (18, 2), (7, 20), (7, 21), (3, 12), (7, 22), (3, 14), (4, 7), (7, 7), (7, 8), (7, 9), (7, 10), (7, 11), (7, 12), (7, 13), (7, 14), (7, 15), (7, 16), (7, 17), (7, 18), (7, 23), (8, 0), (8, 1), (8, 2), (8, 3), (8, 4), (8, 5), (8, 6), (8, 7), (8, 8), (8, 9), (8, 10), (8, 11), (8, 12), (8, 13), (8, 14), (8, 15), (8, 16), (8, 17), (8, 18), (8, 19), (8, 20), (8, 21), (8, 22), (8, 23), (9, 0), (9, 1), (9, 2), (9, 3), (9, 4), (9, 5), (9, 6), (9, 7), (9, 8), (9, 9), (9, 10), (9, 11), (25, 5), (25, 6), (25, 7), (1, 17), (25, 8), (1, 22), (6, 0), (15, 20), (6, 1), (6, 2), (6, 3), (6, 4), (6, 5), (6, 6), (6, 7), (6, 8), (6, 9), (6, 10), (6, 11), (6, 12), (6, 13), (6, 14), (6, 15), (6, 16), (6, 17), (6, 18), (6, 19), (6, 20), (6, 21), (25, 9), (7, 4), (7, 5), (7, 6), (7, 19), (5, 12), (5, 13), (5, 14), (5, 15), (1, 13), (25, 10), (3, 19), (3, 20), (3, 21), (3, 22), (3, 23), (4, 0), (4, 1), (4, 2), (4, 3), (4, 4), (4, 5), (4, 6), (28, 0), (28, 1), (28, 2), (28, 3), (28, 4), (28, 5), (28, 6), (28, 7), (28, 8), (28, 9), (28, 10), (28, 11), (29, 0), (29, 1), (29, 2), (29, 3), (29, 4), (29, 5), (29, 6), (29, 7), (32, 0), (32, 1), (33, 0), (33, 1)] rfl (by decide +kernel)
set_option maxRecDepth 20000 in
theorem gX11_read_X2_readEnd : GoodIn wsX11_read (wsV RX11 102 RX2 yX2_readEnd wsX2_readEnd) := goodIn_app (goodIn_of _ (by decide +kernel)) ggX11_read_X2_readEnd
set_option maxRecDepth 20000 in
theorem ggX11_read_X2_fault : GoodIn wsX11_read wsX2_fault := goodIn_r2 cbX11_read_f _ [(25, 14), (1, 13), (28, 0), (28, 1), (28, 2), (28, 3), (28, 4), (28, 5), (28, 6), (28, 7), (28, 8), (28, 9), (28, 10), (28, 11)] rfl (by decide +kernel)
set_option maxRecDepth 20000 in
theorem gX11_read_X2_fault : GoodIn wsX11_read (wsV RX11 105 RX2 yX2_fault wsX2_fault) := goodIn_app (goodIn_of _ (by decide +kernel)) ggX11_read_X2_fault
set_option maxRecDepth 20000 in
theorem ggX11_read_X2_exchange : GoodIn wsX11_read wsX2_exchange := goodIn_r2 cbX11_read_f _ [(25, 18), (1, 11), (28, 0), (28, 1), (28, 2), (28, 3), (28, 4), (28, 5), (28, 6), (28, 7), (28, 8), (28, 9), (28, 10), (28, 11)] rfl (by decide +kernel)
set_option maxRecDepth 20000 in
theorem gX11_read_X2_exchange : GoodIn wsX11_read (wsV RX11 108 RX2 yX2_exchange wsX2_exchange) := goodIn_app (goodIn_of _ (by decide +kernel)) ggX11_read_X2_exchange
set_option maxRecDepth 20000 in
theorem ggX11_read_X6_keep : GoodIn wsX11_read wsX6_keep := goodIn_r2 cbX11_read_f _ [(3, 13), (3, 14), (32, 0), (32, 1)] rfl (by decide +kernel)
set_option maxRecDepth 20000 in
theorem gX11_read_X6_keep : GoodIn wsX11_read (wsV RX11 87 RX6 yX6_keep wsX6_keep) := goodIn_app (goodIn_of _ (by decide +kernel)) ggX11_read_X6_keep
set_option maxRecDepth 20000 in
theorem ggX11_read_X1_standAt : GoodIn wsX11_read wsX1_standAt := goodIn_r2 cbX11_read_f _ [(25, 23), (26, 0), (23, 18), (26, 1), (1, 19), (23, 20), (16, 7), (16, 8), (1, 17), (16, 9), (1, 21), (16, 10), (1, 20), (26, 2), (17, 16), (17, 17), (2, 3), (17, 18), (2, 11), (17, 19), (5, 9), (5, 10), (5, 11), (2, 19), (2, 20), (2, 12), (2, 6), (2, 13), (2, 14), (26, 3), (22, 18), (22, 19), (22, 20), (21, 13), (14, 15), (14, 16), (14, 17), (22, 2), (21, 1), (21, 2), (21, 3), (2, 15), (2, 16), (2, 17), (2, 18), (22, 21), (22, 22), (22, 23), (23, 0), (15, 13), (15, 14), (15, 15), (29, 0), (29, 1), (29, 2), (29, 3), (29, 4), (29, 5), (29, 6), (29, 7), (31, 0), (31, 1), (31, 2), (31, 3), (31, 4), (31, 5), (31, 6), (30, 0), (30, 1), (30, 2), (30, 3), (30, 4), (30, 5), (30, 6)] rfl (by decide +kernel)
set_option maxRecDepth 20000 in
theorem gX11_read_X1_standAt : GoodIn wsX11_read (wsV RX11 112 RX1 yX1_standAt wsX1_standAt) := goodIn_app (goodIn_of _ (by decide +kernel)) ggX11_read_X1_standAt
set_option maxRecDepth 20000 in
theorem ggX11_find_X6_size : GoodIn wsX11_find wsX6_size := goodIn_r2 cbX11_find_f _ [(1, 7), (1, 8), (14, 0), (14, 1)] rfl (by decide +kernel)
set_option maxRecDepth 20000 in
theorem gX11_find_X6_size : GoodIn wsX11_find (wsV RX11 75 RX6 yX6_size wsX6_size) := goodIn_app (goodIn_of _ (by decide +kernel)) ggX11_find_X6_size
set_option maxRecDepth 20000 in
theorem ggX11_find_X8_matched : GoodIn wsX11_find wsX8_matched := goodIn_r2 cbX11_find_f _ [(1, 13), (1, 14), (1, 15), (1, 16), (1, 17), (1, 18), (1, 19), (1, 20), (1, 21), (1, 12), (1, 22), (1, 23), (2, 0), (2, 1), (2, 2), (1, 6), (2, 3), (1, 8), (2, 4), (1, 4), (1, 5), (1, 7), (2, 5), (2, 6), (2, 7), (2, 8), (2, 9), (2, 10), (2, 11), (2, 12), (2, 13), (2, 14), (2, 15), (2, 16), (2, 17), (2, 18), (2, 19), (2, 20), (2, 21), (2, 22), (2, 23), (3, 0), (3, 1), (3, 2), (3, 3), (3, 4), (3, 5), (3, 6), (3, 7), (3, 8), (3, 9), (3, 10), (3, 11), (3, 12), (3, 13), (3, 14), (3, 15), (3, 16), (3, 17), (3, 18), (3, 19), (3, 20), (3, 21), (3, 22), (3, 23), (4, 0), (4, 1), (4, 2), (4, 3), (4, 4), (4, 5), (4, 6), (4, 7), (4, 8), (4, 9), (4, 10), (4, 11), (4, 12), (4, 13), (4, 14), (4, 15), (4, 16), (4, 17), (4, 18), (4, 19), (4, 20), (4, 21), (4, 22), (4, 23), (5, 0), (5, 1), (5, 2), (5, 3), (5, 4), (5, 5), (5, 6), (5, 7), (5, 8), (5, 9), (5, 10), (5, 11), (5, 12), (5, 13), (5, 14), (5, 15), (5, 16), (5, 17), (5, 18), (5, 19), (5, 20), (5, 21), (5, 22), (5, 23), (6, 0), (6, 1), (6, 2), (6, 3), (6, 4), (6, 5), (6, 6), (6, 7), (6, 8), (6, 9), (6, 10), (6, 11), (6, 12), (6, 13), (6, 14), (6, 15), (6, 16), (6, 17), (6, 18), (6, 19), (6, 20), (6, 21), (6, 22), (6, 23), (7, 0), (7, 1), (7, 2), (7, 3), (7, 4), (7, 5), (7, 6), (7, 7), (7, 8), (7, 9), (7, 10), (7, 11), (7, 12), (7, 13), (7, 14), (7, 15), (7, 16), (7, 17), (7, 18), (7, 19), (7, 20), (7, 21), (7, 22), (7, 23), (8, 0), (8, 1), (8, 2), (8, 3), (8, 4), (8, 5), (8, 6), (8, 7), (8, 8), (8, 9), (8, 10), (8, 11), (8, 12), (8, 13), (8, 14), (8, 15), (8, 16), (8, 17), (8, 18), (8, 19), (8, 20), (8, 21), (8, 22), (8, 23), (9, 0), (9, 1), (9, 2), (9, 3), (9, 4), (9, 5), (9, 6), (9, 7), (9, 8), (9, 9), (9, 10), (9, 11), (9, 12), (9, 13), (9, 14), (9, 15), (9, 16), (9, 17), (9, 18), (9, 19), (9, 20), (9, 21), (9, 22), (9, 23), (10, 0), (10, 1), (10, 2), (10, 3), (10, 4), (10, 5), (10, 6), (10, 7), (10, 8), (10, 9), (10, 10), (10, 11), (10, 12), (10, 13), (10, 14), (10, 15), (10, 16), (10, 17), (10, 18), (10, 19), (10, 20), (10, 21), (10, 22), (10, 23), (11, 0), (11, 1), (11, 2), (11, 3), (11, 4), (11, 5), (11, 6), (11, 7), (11, 8), (11, 9), (11, 10), (11, 11), (11, 12), (11, 13), (11, 14), (11, 15), (11, 16), (11, 17), (11, 18), (11, 19), (11, 20), (11, 21), (11, 22), (11, 23), (12, 0), (12, 1), (12, 2), (12, 3), (12, 4), (12, 5), (12, 6), (12, 7), (12, 8), (12, 9), (12, 10), (12, 11), (12, 12), (12, 13), (12, 14), (12, 15), (12, 16), (12, 17), (12, 18), (12, 19), (15, 0), (15, 1), (15, 2), (15, 3), (15, 4), (15, 5), (15, 6), (15, 7), (15, 8), (15, 9), (15, 10), (15, 11), (14, 0), (14, 1), (16, 0), (16, 1), (16, 2), (16, 3), (16, 4), (16, 5), (16, 6), (17, 0), (17, 1)] rfl (by decide +kernel)
set_option maxRecDepth 20000 in
theorem gX11_find_X8_matched : GoodIn wsX11_find (wsV RX11 116 RX8 yX8_matched wsX8_matched) := goodIn_app (goodIn_of _ (by decide +kernel)) ggX11_find_X8_matched
set_option maxRecDepth 20000 in
theorem ggX11_write_X6_keep : GoodIn wsX11_write wsX6_keep := goodIn_r2 cbX11_write_f _ [(1, 8), (1, 9), (15, 0), (15, 1)] rfl (by decide +kernel)
set_option maxRecDepth 20000 in
theorem gX11_write_X6_keep : GoodIn wsX11_write (wsV RX11 87 RX6 yX6_keep wsX6_keep) := goodIn_app (goodIn_of _ (by decide +kernel)) ggX11_write_X6_keep
set_option maxRecDepth 20000 in
theorem ggX11_write_X3_putHead : GoodIn wsX11_write wsX3_putHead := goodIn_r2 cbX11_write_f _ [(1, 14), (1, 15), (1, 16), (1, 17), (1, 18), (1, 19), (1, 20), (1, 21), (1, 22), (1, 23), (2, 0), (2, 1), (2, 2), (2, 3), (2, 4), (2, 5), (2, 6), (2, 7), (2, 8), (2, 9), (2, 10), (2, 11), (2, 12), (1, 7), (2, 13), (2, 14), (2, 15), (2, 16), (2, 17), (2, 18), (2, 19), (1, 9), (2, 20), (2, 21), (2, 22), (2, 23), (3, 0), (3, 1), (3, 2), (3, 3), (3, 4), (3, 5), (3, 6), (3, 7), (3, 8), (3, 9), (3, 10), (3, 11), (3, 12), (3, 13), (3, 14), (3, 15), (3, 16), (3, 17), (3, 18), (3, 19), (3, 20), (3, 21), (3, 22), (3, 23), (4, 0), (4, 1), (4, 2), (4, 3), (4, 4), (4, 5), (4, 6), (4, 7), (4, 8), (4, 9), (4, 10), (4, 11), (4, 12), (4, 13), (4, 14), (4, 15), (4, 16), (4, 17), (4, 18), (4, 19), (4, 20), (4, 21), (4, 22), (4, 23), (5, 0), (5, 1), (5, 2), (5, 3), (5, 4), (5, 5), (5, 6), (5, 7), (5, 8), (5, 9), (5, 10), (5, 11), (5, 12), (5, 13), (5, 14), (5, 15), (5, 16), (5, 17), (5, 18), (5, 19), (5, 20), (1, 13), (5, 21), (5, 22), (5, 23), (6, 0), (6, 1), (6, 2), (6, 3), (6, 4), (6, 5), (6, 6), (6, 7), (6, 8), (6, 9), (6, 10), (6, 11), (6, 12), (6, 13), (6, 14), (6, 15), (6, 16), (6, 17), (6, 18), (6, 19), (6, 20), (6, 21), (6, 22), (6, 23), (7, 0), (7, 1), (7, 2), (7, 3), (7, 4), (7, 5), (16, 0), (16, 1), (16, 2), (16, 3), (16, 4), (16, 5), (16, 6), (16, 7), (17, 0), (17, 1), (18, 0), (18, 1), (15, 0), (15, 1), (14, 0), (14, 1), (14, 2), (14, 3), (14, 4), (14, 5), (14, 6), (19, 0), (19, 1), (19, 2), (19, 3), (19, 4), (19, 5), (19, 6)] rfl (by decide +kernel)
set_option maxRecDepth 20000 in
theorem gX11_write_X3_putHead : GoodIn wsX11_write (wsV RX11 120 RX3 yX3_putHead wsX3_putHead) := goodIn_app (goodIn_of _ (by decide +kernel)) ggX11_write_X3_putHead
set_option maxRecDepth 20000 in
theorem ggX11_write_X1_at : GoodIn wsX11_write wsX1_at := goodIn_r2 cbX11_write_f _ [(6, 6), (6, 7), (6, 8), (6, 9), (16, 0), (16, 1), (16, 2), (16, 3), (16, 4), (16, 5), (16, 6), (16, 7)] rfl (by decide +kernel)
set_option maxRecDepth 20000 in
theorem gX11_write_X1_at : GoodIn wsX11_write (wsV RX11 124 RX1 yX1_at wsX1_at) := goodIn_app (goodIn_of _ (by decide +kernel)) ggX11_write_X1_at
set_option maxRecDepth 20000 in
theorem ggX11_write_X3_putLine : GoodIn wsX11_write wsX3_putLine := goodIn_r2 cbX11_write_f _ [(7, 9), (1, 18), (6, 13), (7, 10), (7, 11), (7, 12), (6, 3), (6, 4), (6, 5), (1, 23), (6, 6), (6, 7), (6, 8), (6, 9), (7, 13), (7, 14), (7, 15), (1, 13), (7, 16), (7, 17), (7, 18), (7, 19), (7, 20), (6, 14), (6, 15), (6, 16), (5, 22), (5, 23), (6, 0), (1, 7), (6, 1), (1, 9), (6, 2), (3, 10), (3, 11), (3, 12), (2, 19), (2, 20), (2, 21), (2, 22), (2, 23), (3, 0), (3, 1), (3, 2), (3, 3), (3, 4), (7, 21), (7, 22), (7, 23), (8, 0), (3, 13), (3, 14), (3, 15), (3, 16), (3, 17), (3, 18), (3, 19), (3, 20), (3, 21), (3, 22), (3, 23), (4, 0), (4, 1), (4, 2), (4, 3), (4, 4), (4, 5), (4, 6), (4, 7), (4, 8), (4, 9), (4, 10), (4, 11), (4, 12), (4, 13), (4, 14), (4, 15), (4, 16), (4, 17), (4, 18), (4, 19), (4, 20), (4, 21), (4, 22), (4, 23), (5, 0), (5, 1), (5, 2), (5, 3), (5, 4), (5, 5), (5, 6), (5, 7), (5, 8), (5, 9), (5, 10), (5, 11), (5, 12), (5, 13), (5, 14), (5, 15), (5, 16), (5, 17), (5, 18), (8, 1), (8, 2), (8, 3), (8, 4), (8, 5), (8, 6), (8, 7), (8, 8), (8, 9), (6, 20), (8, 10), (6, 22), (8, 11), (8, 12), (8, 13), (8, 14), (8, 15), (8, 16), (8, 17), (8, 18), (8, 19), (8, 20), (8, 21), (8, 22), (8, 23), (9, 0), (9, 1), (9, 2), (9, 3), (9, 4), (9, 5), (9, 6), (9, 7), (9, 8), (9, 9), (9, 10), (7, 2), (9, 11), (9, 12), (9, 13), (9, 14), (7, 4), (9, 15), (9, 16), (9, 17), (9, 18), (9, 19), (9, 20), (9, 21), (9, 22), (9, 23), (7, 3), (10, 0), (10, 1), (10, 2), (10, 3), (10, 4), (10, 5), (10, 6), (10, 7), (10, 8), (10, 9), (10, 10), (10, 11), (10, 12), (6, 18), (6, 19), (6, 21), (6, 23), (7, 0), (7, 1), (7, 5), (10, 13), (10, 14), (10, 15), (10, 16), (10, 17), (10, 18), (10, 19), (10, 20), (10, 21), (10, 22), (10, 23), (11, 0), (11, 1), (11, 2), (11, 3), (11, 4), (11, 5), (11, 6), (11, 7), (11, 8), (11, 9), (11, 10), (11, 11), (11, 12), (11, 13), (11, 14), (11, 15), (11, 16), (11, 17), (11, 18), (11, 19), (11, 20), (11, 21), (11, 22), (11, 23), (12, 0), (6, 10), (6, 11), (6, 12), (3, 5), (3, 6), (3, 7), (3, 8), (3, 9), (12, 1), (12, 2), (12, 3), (12, 4), (12, 5), (12, 6), (12, 7), (6, 17), (12, 8), (7, 7), (7, 8), (12, 9), (18, 0), (18, 1), (14, 0), (14, 1), (14, 2), (14, 3), (14, 4), (14, 5), (14, 6), (16, 0), (16, 1), (16, 2), (16, 3), (16, 4), (16, 5), (16, 6), (16, 7), (19, 0), (19, 1), (19, 2), (19, 3), (19, 4), (19, 5), (19, 6), (15, 0), (15, 1), (20, 0), (21, 0), (21, 1)] rfl (by decide +kernel)
set_option maxRecDepth 20000 in
theorem gX11_write_X3_putLine_n133 : GoodIn wsX11_write (wsX3_putLine) := ggX11_write_X3_putLine
set_option maxRecDepth 20000 in
theorem ggX11_write_X3_putEnd : GoodIn wsX11_write wsX3_putEnd := goodIn_r2 cbX11_write_f _ [(12, 13), (12, 14), (6, 14), (6, 15), (1, 13), (6, 16), (5, 22), (5, 23), (6, 0), (1, 7), (6, 1), (1, 9), (6, 2), (3, 10), (3, 11), (3, 12), (2, 19), (2, 20), (2, 21), (2, 22), (2, 23), (3, 0), (3, 1), (3, 2), (3, 3), (3, 4), (12, 15), (8, 22), (12, 16), (3, 14), (3, 15), (3, 16), (3, 17), (3, 18), (3, 19), (3, 20), (3, 21), (3, 22), (3, 23), (4, 0), (4, 1), (4, 2), (4, 3), (4, 4), (4, 5), (4, 6), (4, 7), (4, 8), (4, 9), (4, 10), (4, 11), (4, 12), (4, 13), (4, 14), (4, 15), (4, 16), (4, 17), (4, 18), (4, 19), (4, 20), (4, 21), (4, 22), (4, 23), (5, 0), (5, 1), (5, 2), (5, 3), (5, 4), (5, 5), (5, 6), (5, 7), (5, 8), (5, 9), (5, 10), (5, 11), (5, 12), (5, 13), (5, 14), (5, 15), (5, 16), (5, 17), (5, 18), (3, 13), (16, 0), (16, 1), (16, 2), (16, 3), (16, 4), (16, 5), (16, 6), (16, 7), (15, 0), (15, 1)] rfl (by decide +kernel)
set_option maxRecDepth 20000 in
theorem gX11_write_X3_putEnd : GoodIn wsX11_write (wsV RX11 137 RX3 yX3_putEnd wsX3_putEnd) := goodIn_app (goodIn_of _ (by decide +kernel)) ggX11_write_X3_putEnd
set_option maxRecDepth 20000 in
theorem ggX11_write_X6_size : GoodIn wsX11_write wsX6_size := goodIn_r2 cbX11_write_f _ [(6, 1), (1, 9), (15, 0), (15, 1)] rfl (by decide +kernel)
set_option maxRecDepth 20000 in
theorem gX11_write_X6_size : GoodIn wsX11_write (wsV RX11 75 RX6 yX6_size wsX6_size) := goodIn_app (goodIn_of _ (by decide +kernel)) ggX11_write_X6_size
set_option maxRecDepth 20000 in
theorem ggX11_out_X6_at : GoodIn wsX11_out wsX6_at := goodIn_r _ [6, 7, 8, 19, 20] rfl (by decide +kernel)
set_option maxRecDepth 20000 in
theorem gX11_out_X6_at : GoodIn wsX11_out (wsV RX11 155 RX6 yX6_at wsX6_at) := goodIn_app (goodIn_of _ (by decide +kernel)) ggX11_out_X6_at
set_option maxRecDepth 20000 in
theorem ggX11_move_X7_legalMove : GoodIn wsX11_move wsX7_legalMove := goodIn_r2 cbX11_move_f _ [(1, 6), (1, 7), (1, 8), (1, 9), (1, 10), (1, 11), (1, 12), (1, 13), (1, 14), (1, 15), (1, 16), (1, 17), (1, 18), (1, 19), (1, 20), (1, 21), (1, 22), (1, 23), (2, 0), (2, 1), (2, 2), (2, 3), (2, 4), (2, 5), (2, 6), (2, 7), (2, 8), (2, 9), (2, 10), (2, 11), (2, 12), (2, 13), (2, 14), (1, 5), (2, 15), (2, 16), (2, 17), (2, 18), (2, 19), (2, 20), (2, 21), (2, 22), (2, 23), (3, 0), (3, 1), (3, 2), (3, 3), (3, 4), (3, 5), (3, 6), (3, 7), (3, 8), (3, 9), (3, 10), (3, 11), (3, 12), (3, 13), (3, 14), (3, 15), (3, 16), (3, 17), (3, 18), (3, 19), (3, 20), (3, 21), (3, 22), (3, 23), (4, 0), (4, 1), (4, 2), (4, 3), (4, 4), (4, 5), (4, 6), (4, 7), (4, 8), (6, 0), (6, 1), (6, 2), (6, 3), (6, 4), (6, 5), (6, 6), (7, 0), (7, 1)] rfl (by decide +kernel)
set_option maxRecDepth 20000 in
theorem gX11_move_X7_legalMove : GoodIn wsX11_move (wsV RX11 201 RX7 yX7_legalMove wsX7_legalMove) := goodIn_app (goodIn_of _ (by decide +kernel)) ggX11_move_X7_legalMove
set_option maxRecDepth 20000 in
theorem ggX11_squareOf_X11_isFile : GoodIn wsX11_squareOf wsX11_isFile := goodIn_r _ [4] rfl (by decide +kernel)
set_option maxRecDepth 20000 in
theorem gX11_squareOf_X11_isFile : GoodIn wsX11_squareOf (va_wsS RX11 279 yX11_isFile wsX11_isFile) := goodIn_app (goodIn_of _ (by decide +kernel)) ggX11_squareOf_X11_isFile
set_option maxRecDepth 20000 in
theorem ggX11_squareOf_X11_isRank : GoodIn wsX11_squareOf wsX11_isRank := goodIn_r _ [7] rfl (by decide +kernel)
set_option maxRecDepth 20000 in
theorem gX11_squareOf_X11_isRank : GoodIn wsX11_squareOf (va_wsS RX11 283 yX11_isRank wsX11_isRank) := goodIn_app (goodIn_of _ (by decide +kernel)) ggX11_squareOf_X11_isRank
set_option maxRecDepth 20000 in
theorem ggX11_kindOf_J0_indexOf_0f7a4 : GoodIn wsX11_kindOf wsJ0_indexOf_0f7a4 := goodIn_r2 cbX11_kindOf_f _ [(1, 4), (1, 5), (1, 6), (1, 7), (1, 3), (1, 8), (1, 9), (1, 10), (1, 11), (1, 12), (1, 13), (1, 14), (1, 15), (1, 16), (1, 17), (1, 18), (1, 19), (1, 20), (1, 21), (1, 22), (1, 23), (2, 0), (2, 1), (2, 2), (2, 3), (2, 4), (2, 5), (2, 6), (2, 7), (2, 8), (2, 9), (2, 10), (2, 11), (2, 12), (2, 13), (2, 14), (2, 15), (2, 16), (2, 17), (2, 18), (2, 19), (2, 20), (2, 21), (2, 22), (2, 23), (3, 0), (3, 1), (3, 2), (3, 3), (3, 4), (3, 5), (3, 6), (3, 7), (3, 8), (3, 9), (3, 10), (3, 11), (3, 12), (3, 13), (3, 14), (3, 15), (3, 16), (3, 17), (3, 18), (3, 19), (3, 20), (3, 21), (3, 22), (3, 23), (4, 0), (4, 1), (4, 2), (4, 3), (4, 4), (4, 5), (4, 6), (4, 7), (4, 8), (4, 9), (4, 10), (4, 11), (4, 12), (4, 13), (4, 14), (4, 15), (4, 16)] rfl (by decide +kernel)
set_option maxRecDepth 20000 in
theorem gX11_kindOf_J0_indexOf_0f7a4 : GoodIn wsX11_kindOf (wsV RX11 288 RJ0 yJ0_indexOf_0f7a4 wsJ0_indexOf_0f7a4) := goodIn_app (goodIn_of _ (by decide +kernel)) ggX11_kindOf_J0_indexOf_0f7a4
set_option maxRecDepth 20000 in
theorem ggX11_letterOf_J0_charAt_5068e : GoodIn wsX11_letterOf wsJ0_charAt_5068e := goodIn_r _ [5, 6, 7, 8, 9, 4, 10, 11, 12, 13, 14, 15, 16, 17, 18, 19, 20, 21, 22, 23, 24, 25, 26, 27, 28, 29, 30, 31, 32, 33, 34, 35, 36, 37, 38, 39, 40, 41] rfl (by decide +kernel)
set_option maxRecDepth 20000 in
theorem gX11_letterOf_J0_charAt_5068e : GoodIn wsX11_letterOf (wsV RX11 292 RJ0 yJ0_charAt_5068e wsJ0_charAt_5068e) := goodIn_app (goodIn_of _ (by decide +kernel)) ggX11_letterOf_J0_charAt_5068e
end
section
theorem dX0_init_0 : decode cX0_init 0 = .ok (.aload_n 0, 1) := by decide +kernel
theorem dX0_init_1 : decode cX0_init 1 = .ok (.invokespecial 3, 3) := by decide +kernel
theorem dX0_init_4 : decode cX0_init 4 = .ok (.aload_n 0, 1) := by decide +kernel
theorem dX0_init_5 : decode cX0_init 5 = .ok (.bipush 64, 2) := by decide +kernel
theorem dX0_init_7 : decode cX0_init 7 = .ok (.newarray .int, 2) := by decide +kernel
theorem dX0_init_9 : decode cX0_init 9 = .ok (.putfield 9, 3) := by decide +kernel
theorem dX0_init_12 : decode cX0_init 12 = .ok (.aload_n 0, 1) := by decide +kernel
theorem dX0_init_13 : decode cX0_init 13 = .ok (.iconst 4, 1) := by decide +kernel
theorem dX0_init_14 : decode cX0_init 14 = .ok (.putfield 15, 3) := by decide +kernel
theorem dX0_init_17 : decode cX0_init 17 = .ok (.aload_n 0, 1) := by decide +kernel
theorem dX0_init_18 : decode cX0_init 18 = .ok (.bipush 60, 2) := by decide +kernel
theorem dX0_init_20 : decode cX0_init 20 = .ok (.putfield 19, 3) := by decide +kernel
theorem dX0_init_23 : decode cX0_init 23 = .ok (.aload_n 0, 1) := by decide +kernel
theorem dX0_init_24 : decode cX0_init 24 = .ok (.iconst 0, 1) := by decide +kernel
theorem dX0_init_25 : decode cX0_init 25 = .ok (.putfield 22, 3) := by decide +kernel
theorem dX0_init_28 : decode cX0_init 28 = .ok (.aload_n 0, 1) := by decide +kernel
theorem dX0_init_29 : decode cX0_init 29 = .ok (.iconst 0, 1) := by decide +kernel
theorem dX0_init_30 : decode cX0_init 30 = .ok (.putfield 25, 3) := by decide +kernel
theorem dX0_init_33 : decode cX0_init 33 = .ok (.aload_n 0, 1) := by decide +kernel
theorem dX0_init_34 : decode cX0_init 34 = .ok (.iconst (-1), 1) := by decide +kernel
theorem dX0_init_35 : decode cX0_init 35 = .ok (.putfield 28, 3) := by decide +kernel
theorem dX0_init_38 : decode cX0_init 38 = .ok (.aload_n 0, 1) := by decide +kernel
theorem dX0_init_39 : decode cX0_init 39 = .ok (.iconst 1, 1) := by decide +kernel
theorem dX0_init_40 : decode cX0_init 40 = .ok (.putfield 31, 3) := by decide +kernel
theorem dX0_init_43 : decode cX0_init 43 = .ok (.return_, 1) := by decide +kernel
theorem dX0_setUp_0 : decode cX0_setUp 0 = .ok (.aload_n 0, 1) := by decide +kernel
theorem dX0_setUp_1 : decode cX0_setUp 1 = .ok (.invokevirtual 34, 3) := by decide +kernel
theorem dX0_setUp_4 : decode cX0_setUp 4 = .ok (.iconst 0, 1) := by decide +kernel
theorem dX0_setUp_5 : decode cX0_setUp 5 = .ok (.istore_n 1, 1) := by decide +kernel
theorem dX0_setUp_6 : decode cX0_setUp 6 = .ok (.iload_n 1, 1) := by decide +kernel
theorem dX0_setUp_7 : decode cX0_setUp 7 = .ok (.bipush 8, 2) := by decide +kernel
theorem dX0_setUp_9 : decode cX0_setUp 9 = .ok (.if_icmp .ge 54, 3) := by decide +kernel
theorem dX0_setUp_12 : decode cX0_setUp 12 = .ok (.aload_n 0, 1) := by decide +kernel
theorem dX0_setUp_13 : decode cX0_setUp 13 = .ok (.iload_n 1, 1) := by decide +kernel
theorem dX0_setUp_14 : decode cX0_setUp 14 = .ok (.getstatic 37, 3) := by decide +kernel
theorem dX0_setUp_17 : decode cX0_setUp 17 = .ok (.iload_n 1, 1) := by decide +kernel
theorem dX0_setUp_18 : decode cX0_setUp 18 = .ok (.iaload, 1) := by decide +kernel
theorem dX0_setUp_19 : decode cX0_setUp 19 = .ok (.invokevirtual 40, 3) := by decide +kernel
theorem dX0_setUp_22 : decode cX0_setUp 22 = .ok (.aload_n 0, 1) := by decide +kernel
theorem dX0_setUp_23 : decode cX0_setUp 23 = .ok (.iload_n 1, 1) := by decide +kernel
theorem dX0_setUp_24 : decode cX0_setUp 24 = .ok (.bipush 8, 2) := by decide +kernel
theorem dX0_setUp_26 : decode cX0_setUp 26 = .ok (.iadd, 1) := by decide +kernel
theorem dX0_setUp_27 : decode cX0_setUp 27 = .ok (.iconst 1, 1) := by decide +kernel
theorem dX0_setUp_28 : decode cX0_setUp 28 = .ok (.invokevirtual 40, 3) := by decide +kernel
theorem dX0_setUp_31 : decode cX0_setUp 31 = .ok (.aload_n 0, 1) := by decide +kernel
theorem dX0_setUp_32 : decode cX0_setUp 32 = .ok (.iload_n 1, 1) := by decide +kernel
theorem dX0_setUp_33 : decode cX0_setUp 33 = .ok (.bipush 48, 2) := by decide +kernel
theorem dX0_setUp_35 : decode cX0_setUp 35 = .ok (.iadd, 1) := by decide +kernel
theorem dX0_setUp_36 : decode cX0_setUp 36 = .ok (.bipush 9, 2) := by decide +kernel
theorem dX0_setUp_38 : decode cX0_setUp 38 = .ok (.invokevirtual 40, 3) := by decide +kernel
theorem dX0_setUp_41 : decode cX0_setUp 41 = .ok (.aload_n 0, 1) := by decide +kernel
theorem dX0_setUp_42 : decode cX0_setUp 42 = .ok (.iload_n 1, 1) := by decide +kernel
theorem dX0_setUp_43 : decode cX0_setUp 43 = .ok (.bipush 56, 2) := by decide +kernel
theorem dX0_setUp_45 : decode cX0_setUp 45 = .ok (.iadd, 1) := by decide +kernel
theorem dX0_setUp_46 : decode cX0_setUp 46 = .ok (.getstatic 37, 3) := by decide +kernel
theorem dX0_setUp_49 : decode cX0_setUp 49 = .ok (.iload_n 1, 1) := by decide +kernel
theorem dX0_setUp_50 : decode cX0_setUp 50 = .ok (.iaload, 1) := by decide +kernel
theorem dX0_setUp_51 : decode cX0_setUp 51 = .ok (.bipush 8, 2) := by decide +kernel
theorem dX0_setUp_53 : decode cX0_setUp 53 = .ok (.iadd, 1) := by decide +kernel
theorem dX0_setUp_54 : decode cX0_setUp 54 = .ok (.invokevirtual 40, 3) := by decide +kernel
theorem dX0_setUp_57 : decode cX0_setUp 57 = .ok (.iinc 1 1, 3) := by decide +kernel
theorem dX0_setUp_60 : decode cX0_setUp 60 = .ok (.goto (-54), 3) := by decide +kernel
theorem dX0_setUp_63 : decode cX0_setUp 63 = .ok (.aload_n 0, 1) := by decide +kernel
theorem dX0_setUp_64 : decode cX0_setUp 64 = .ok (.bipush 15, 2) := by decide +kernel
theorem dX0_setUp_66 : decode cX0_setUp 66 = .ok (.putfield 25, 3) := by decide +kernel
theorem dX0_setUp_69 : decode cX0_setUp 69 = .ok (.return_, 1) := by decide +kernel
theorem dX0_wipe_0 : decode cX0_wipe 0 = .ok (.iconst 0, 1) := by decide +kernel
theorem dX0_wipe_1 : decode cX0_wipe 1 = .ok (.istore_n 1, 1) := by decide +kernel
theorem dX0_wipe_2 : decode cX0_wipe 2 = .ok (.iload_n 1, 1) := by decide +kernel
theorem dX0_wipe_3 : decode cX0_wipe 3 = .ok (.bipush 64, 2) := by decide +kernel
theorem dX0_wipe_5 : decode cX0_wipe 5 = .ok (.if_icmp .ge 16, 3) := by decide +kernel
theorem dX0_wipe_8 : decode cX0_wipe 8 = .ok (.aload_n 0, 1) := by decide +kernel
theorem dX0_wipe_9 : decode cX0_wipe 9 = .ok (.getfield 9, 3) := by decide +kernel
theorem dX0_wipe_12 : decode cX0_wipe 12 = .ok (.iload_n 1, 1) := by decide +kernel
theorem dX0_wipe_13 : decode cX0_wipe 13 = .ok (.iconst 0, 1) := by decide +kernel
theorem dX0_wipe_14 : decode cX0_wipe 14 = .ok (.iastore, 1) := by decide +kernel
theorem dX0_wipe_15 : decode cX0_wipe 15 = .ok (.iinc 1 1, 3) := by decide +kernel
theorem dX0_wipe_18 : decode cX0_wipe 18 = .ok (.goto (-16), 3) := by decide +kernel
theorem dX0_wipe_21 : decode cX0_wipe 21 = .ok (.aload_n 0, 1) := by decide +kernel
theorem dX0_wipe_22 : decode cX0_wipe 22 = .ok (.iconst 0, 1) := by decide +kernel
theorem dX0_wipe_23 : decode cX0_wipe 23 = .ok (.putfield 22, 3) := by decide +kernel
theorem dX0_wipe_26 : decode cX0_wipe 26 = .ok (.aload_n 0, 1) := by decide +kernel
theorem dX0_wipe_27 : decode cX0_wipe 27 = .ok (.iconst 0, 1) := by decide +kernel
theorem dX0_wipe_28 : decode cX0_wipe 28 = .ok (.putfield 25, 3) := by decide +kernel
theorem dX0_wipe_31 : decode cX0_wipe 31 = .ok (.aload_n 0, 1) := by decide +kernel
theorem dX0_wipe_32 : decode cX0_wipe 32 = .ok (.iconst (-1), 1) := by decide +kernel
theorem dX0_wipe_33 : decode cX0_wipe 33 = .ok (.putfield 28, 3) := by decide +kernel
theorem dX0_wipe_36 : decode cX0_wipe 36 = .ok (.aload_n 0, 1) := by decide +kernel
theorem dX0_wipe_37 : decode cX0_wipe 37 = .ok (.iconst 1, 1) := by decide +kernel
theorem dX0_wipe_38 : decode cX0_wipe 38 = .ok (.putfield 31, 3) := by decide +kernel
theorem dX0_wipe_41 : decode cX0_wipe 41 = .ok (.return_, 1) := by decide +kernel
theorem dX0_copyFrom_0 : decode cX0_copyFrom 0 = .ok (.aload_n 1, 1) := by decide +kernel
theorem dX0_copyFrom_1 : decode cX0_copyFrom 1 = .ok (.getfield 9, 3) := by decide +kernel
theorem dX0_copyFrom_4 : decode cX0_copyFrom 4 = .ok (.iconst 0, 1) := by decide +kernel
theorem dX0_copyFrom_5 : decode cX0_copyFrom 5 = .ok (.aload_n 0, 1) := by decide +kernel
theorem dX0_copyFrom_6 : decode cX0_copyFrom 6 = .ok (.getfield 9, 3) := by decide +kernel
theorem dX0_copyFrom_9 : decode cX0_copyFrom 9 = .ok (.iconst 0, 1) := by decide +kernel
theorem dX0_copyFrom_10 : decode cX0_copyFrom 10 = .ok (.bipush 64, 2) := by decide +kernel
theorem dX0_copyFrom_12 : decode cX0_copyFrom 12 = .ok (.invokestatic 44, 3) := by decide +kernel
theorem dX0_copyFrom_15 : decode cX0_copyFrom 15 = .ok (.aload_n 0, 1) := by decide +kernel
theorem dX0_copyFrom_16 : decode cX0_copyFrom 16 = .ok (.aload_n 1, 1) := by decide +kernel
theorem dX0_copyFrom_17 : decode cX0_copyFrom 17 = .ok (.getfield 15, 3) := by decide +kernel
theorem dX0_copyFrom_20 : decode cX0_copyFrom 20 = .ok (.putfield 15, 3) := by decide +kernel
theorem dX0_copyFrom_23 : decode cX0_copyFrom 23 = .ok (.aload_n 0, 1) := by decide +kernel
theorem dX0_copyFrom_24 : decode cX0_copyFrom 24 = .ok (.aload_n 1, 1) := by decide +kernel
theorem dX0_copyFrom_25 : decode cX0_copyFrom 25 = .ok (.getfield 19, 3) := by decide +kernel
theorem dX0_copyFrom_28 : decode cX0_copyFrom 28 = .ok (.putfield 19, 3) := by decide +kernel
theorem dX0_copyFrom_31 : decode cX0_copyFrom 31 = .ok (.aload_n 0, 1) := by decide +kernel
theorem dX0_copyFrom_32 : decode cX0_copyFrom 32 = .ok (.aload_n 1, 1) := by decide +kernel
theorem dX0_copyFrom_33 : decode cX0_copyFrom 33 = .ok (.getfield 22, 3) := by decide +kernel
theorem dX0_copyFrom_36 : decode cX0_copyFrom 36 = .ok (.putfield 22, 3) := by decide +kernel
theorem dX0_copyFrom_39 : decode cX0_copyFrom 39 = .ok (.aload_n 0, 1) := by decide +kernel
theorem dX0_copyFrom_40 : decode cX0_copyFrom 40 = .ok (.aload_n 1, 1) := by decide +kernel
theorem dX0_copyFrom_41 : decode cX0_copyFrom 41 = .ok (.getfield 25, 3) := by decide +kernel
theorem dX0_copyFrom_44 : decode cX0_copyFrom 44 = .ok (.putfield 25, 3) := by decide +kernel
theorem dX0_copyFrom_47 : decode cX0_copyFrom 47 = .ok (.aload_n 0, 1) := by decide +kernel
theorem dX0_copyFrom_48 : decode cX0_copyFrom 48 = .ok (.aload_n 1, 1) := by decide +kernel
theorem dX0_copyFrom_49 : decode cX0_copyFrom 49 = .ok (.getfield 28, 3) := by decide +kernel
theorem dX0_copyFrom_52 : decode cX0_copyFrom 52 = .ok (.putfield 28, 3) := by decide +kernel
theorem dX0_copyFrom_55 : decode cX0_copyFrom 55 = .ok (.aload_n 0, 1) := by decide +kernel
theorem dX0_copyFrom_56 : decode cX0_copyFrom 56 = .ok (.aload_n 1, 1) := by decide +kernel
theorem dX0_copyFrom_57 : decode cX0_copyFrom 57 = .ok (.getfield 31, 3) := by decide +kernel
theorem dX0_copyFrom_60 : decode cX0_copyFrom 60 = .ok (.putfield 31, 3) := by decide +kernel
theorem dX0_copyFrom_63 : decode cX0_copyFrom 63 = .ok (.return_, 1) := by decide +kernel
theorem dX0_put_0 : decode cX0_put 0 = .ok (.aload_n 0, 1) := by decide +kernel
theorem dX0_put_1 : decode cX0_put 1 = .ok (.getfield 9, 3) := by decide +kernel
theorem dX0_put_4 : decode cX0_put 4 = .ok (.iload_n 1, 1) := by decide +kernel
theorem dX0_put_5 : decode cX0_put 5 = .ok (.iload_n 2, 1) := by decide +kernel
theorem dX0_put_6 : decode cX0_put 6 = .ok (.iastore, 1) := by decide +kernel
theorem dX0_put_7 : decode cX0_put 7 = .ok (.iload_n 2, 1) := by decide +kernel
theorem dX0_put_8 : decode cX0_put 8 = .ok (.bipush 6, 2) := by decide +kernel
theorem dX0_put_10 : decode cX0_put 10 = .ok (.if_icmp .ne 11, 3) := by decide +kernel
theorem dX0_put_13 : decode cX0_put 13 = .ok (.aload_n 0, 1) := by decide +kernel
theorem dX0_put_14 : decode cX0_put 14 = .ok (.iload_n 1, 1) := by decide +kernel
theorem dX0_put_15 : decode cX0_put 15 = .ok (.putfield 15, 3) := by decide +kernel
theorem dX0_put_18 : decode cX0_put 18 = .ok (.goto 14, 3) := by decide +kernel
theorem dX0_put_21 : decode cX0_put 21 = .ok (.iload_n 2, 1) := by decide +kernel
theorem dX0_put_22 : decode cX0_put 22 = .ok (.bipush 14, 2) := by decide +kernel
theorem dX0_put_24 : decode cX0_put 24 = .ok (.if_icmp .ne 8, 3) := by decide +kernel
theorem dX0_put_27 : decode cX0_put 27 = .ok (.aload_n 0, 1) := by decide +kernel
theorem dX0_put_28 : decode cX0_put 28 = .ok (.iload_n 1, 1) := by decide +kernel
theorem dX0_put_29 : decode cX0_put 29 = .ok (.putfield 19, 3) := by decide +kernel
theorem dX0_put_32 : decode cX0_put 32 = .ok (.return_, 1) := by decide +kernel
theorem dX0_kindAt_0 : decode cX0_kindAt 0 = .ok (.aload_n 0, 1) := by decide +kernel
theorem dX0_kindAt_1 : decode cX0_kindAt 1 = .ok (.getfield 9, 3) := by decide +kernel
theorem dX0_kindAt_4 : decode cX0_kindAt 4 = .ok (.iload_n 1, 1) := by decide +kernel
theorem dX0_kindAt_5 : decode cX0_kindAt 5 = .ok (.iaload, 1) := by decide +kernel
theorem dX0_kindAt_6 : decode cX0_kindAt 6 = .ok (.bipush 7, 2) := by decide +kernel
theorem dX0_kindAt_8 : decode cX0_kindAt 8 = .ok (.iand, 1) := by decide +kernel
theorem dX0_kindAt_9 : decode cX0_kindAt 9 = .ok (.ireturn, 1) := by decide +kernel
theorem dX0_kingOf_0 : decode cX0_kingOf 0 = .ok (.iload_n 1, 1) := by decide +kernel
theorem dX0_kingOf_1 : decode cX0_kingOf 1 = .ok (.ifCond .ne 10, 3) := by decide +kernel
theorem dX0_kingOf_4 : decode cX0_kingOf 4 = .ok (.aload_n 0, 1) := by decide +kernel
theorem dX0_kingOf_5 : decode cX0_kingOf 5 = .ok (.getfield 15, 3) := by decide +kernel
theorem dX0_kingOf_8 : decode cX0_kingOf 8 = .ok (.goto 7, 3) := by decide +kernel
theorem dX0_kingOf_11 : decode cX0_kingOf 11 = .ok (.aload_n 0, 1) := by decide +kernel
theorem dX0_kingOf_12 : decode cX0_kingOf 12 = .ok (.getfield 19, 3) := by decide +kernel
theorem dX0_kingOf_15 : decode cX0_kingOf 15 = .ok (.ireturn, 1) := by decide +kernel
theorem dX0_attacked_0 : decode cX0_attacked 0 = .ok (.iconst 0, 1) := by decide +kernel
theorem dX0_attacked_1 : decode cX0_attacked 1 = .ok (.istore_n 3, 1) := by decide +kernel
theorem dX0_attacked_2 : decode cX0_attacked 2 = .ok (.iload_n 3, 1) := by decide +kernel
theorem dX0_attacked_3 : decode cX0_attacked 3 = .ok (.bipush 64, 2) := by decide +kernel
theorem dX0_attacked_5 : decode cX0_attacked 5 = .ok (.if_icmp .ge 41, 3) := by decide +kernel
theorem dX0_attacked_8 : decode cX0_attacked 8 = .ok (.aload_n 0, 1) := by decide +kernel
theorem dX0_attacked_9 : decode cX0_attacked 9 = .ok (.getfield 9, 3) := by decide +kernel
theorem dX0_attacked_12 : decode cX0_attacked 12 = .ok (.iload_n 3, 1) := by decide +kernel
theorem dX0_attacked_13 : decode cX0_attacked 13 = .ok (.iaload, 1) := by decide +kernel
theorem dX0_attacked_14 : decode cX0_attacked 14 = .ok (.ifCond .eq 26, 3) := by decide +kernel
theorem dX0_attacked_17 : decode cX0_attacked 17 = .ok (.aload_n 0, 1) := by decide +kernel
theorem dX0_attacked_18 : decode cX0_attacked 18 = .ok (.getfield 9, 3) := by decide +kernel
theorem dX0_attacked_21 : decode cX0_attacked 21 = .ok (.iload_n 3, 1) := by decide +kernel
theorem dX0_attacked_22 : decode cX0_attacked 22 = .ok (.iaload, 1) := by decide +kernel
theorem dX0_attacked_23 : decode cX0_attacked 23 = .ok (.iconst 3, 1) := by decide +kernel
theorem dX0_attacked_24 : decode cX0_attacked 24 = .ok (.ishr, 1) := by decide +kernel
theorem dX0_attacked_25 : decode cX0_attacked 25 = .ok (.iload_n 2, 1) := by decide +kernel
theorem dX0_attacked_26 : decode cX0_attacked 26 = .ok (.if_icmp .ne 14, 3) := by decide +kernel
theorem dX0_attacked_29 : decode cX0_attacked 29 = .ok (.aload_n 0, 1) := by decide +kernel
theorem dX0_attacked_30 : decode cX0_attacked 30 = .ok (.iload_n 3, 1) := by decide +kernel
theorem dX0_attacked_31 : decode cX0_attacked 31 = .ok (.iload_n 1, 1) := by decide +kernel
theorem dX0_attacked_32 : decode cX0_attacked 32 = .ok (.invokevirtual 50, 3) := by decide +kernel
theorem dX0_attacked_35 : decode cX0_attacked 35 = .ok (.ifCond .eq 5, 3) := by decide +kernel
theorem dX0_attacked_38 : decode cX0_attacked 38 = .ok (.iconst 1, 1) := by decide +kernel
theorem dX0_attacked_39 : decode cX0_attacked 39 = .ok (.ireturn, 1) := by decide +kernel
theorem dX0_attacked_40 : decode cX0_attacked 40 = .ok (.iinc 3 1, 3) := by decide +kernel
theorem dX0_attacked_43 : decode cX0_attacked 43 = .ok (.goto (-41), 3) := by decide +kernel
theorem dX0_attacked_46 : decode cX0_attacked 46 = .ok (.iconst 0, 1) := by decide +kernel
theorem dX0_attacked_47 : decode cX0_attacked 47 = .ok (.ireturn, 1) := by decide +kernel
theorem dX0_attacks_0 : decode cX0_attacks 0 = .ok (.iload_n 2, 1) := by decide +kernel
theorem dX0_attacks_1 : decode cX0_attacks 1 = .ok (.bipush 7, 2) := by decide +kernel
theorem dX0_attacks_3 : decode cX0_attacks 3 = .ok (.iand, 1) := by decide +kernel
theorem dX0_attacks_4 : decode cX0_attacks 4 = .ok (.iload_n 1, 1) := by decide +kernel
theorem dX0_attacks_5 : decode cX0_attacks 5 = .ok (.bipush 7, 2) := by decide +kernel
theorem dX0_attacks_7 : decode cX0_attacks 7 = .ok (.iand, 1) := by decide +kernel
theorem dX0_attacks_8 : decode cX0_attacks 8 = .ok (.isub, 1) := by decide +kernel
theorem dX0_attacks_9 : decode cX0_attacks 9 = .ok (.istore_n 3, 1) := by decide +kernel
theorem dX0_attacks_10 : decode cX0_attacks 10 = .ok (.iload_n 2, 1) := by decide +kernel
theorem dX0_attacks_11 : decode cX0_attacks 11 = .ok (.iconst 3, 1) := by decide +kernel
theorem dX0_attacks_12 : decode cX0_attacks 12 = .ok (.ishr, 1) := by decide +kernel
theorem dX0_attacks_13 : decode cX0_attacks 13 = .ok (.iload_n 1, 1) := by decide +kernel
theorem dX0_attacks_14 : decode cX0_attacks 14 = .ok (.iconst 3, 1) := by decide +kernel
theorem dX0_attacks_15 : decode cX0_attacks 15 = .ok (.ishr, 1) := by decide +kernel
theorem dX0_attacks_16 : decode cX0_attacks 16 = .ok (.isub, 1) := by decide +kernel
theorem dX0_attacks_17 : decode cX0_attacks 17 = .ok (.istore 4, 2) := by decide +kernel
theorem dX0_attacks_19 : decode cX0_attacks 19 = .ok (.aload_n 0, 1) := by decide +kernel
theorem dX0_attacks_20 : decode cX0_attacks 20 = .ok (.getfield 9, 3) := by decide +kernel
theorem dX0_attacks_23 : decode cX0_attacks 23 = .ok (.iload_n 1, 1) := by decide +kernel
theorem dX0_attacks_24 : decode cX0_attacks 24 = .ok (.iaload, 1) := by decide +kernel
theorem dX0_attacks_25 : decode cX0_attacks 25 = .ok (.bipush 7, 2) := by decide +kernel
theorem dX0_attacks_27 : decode cX0_attacks 27 = .ok (.iand, 1) := by decide +kernel
theorem dX0_attacks_28 : decode cX0_attacks 28 = .ok (.istore 5, 2) := by decide +kernel
theorem dX0_attacks_30 : decode cX0_attacks 30 = .ok (.iload 5, 2) := by decide +kernel
theorem dX0_attacks_32 : decode cX0_attacks 32 = .ok (.iconst 1, 1) := by decide +kernel
theorem dX0_attacks_33 : decode cX0_attacks 33 = .ok (.if_icmp .ne 37, 3) := by decide +kernel
theorem dX0_attacks_36 : decode cX0_attacks 36 = .ok (.iload 4, 2) := by decide +kernel
theorem dX0_attacks_38 : decode cX0_attacks 38 = .ok (.aload_n 0, 1) := by decide +kernel
theorem dX0_attacks_39 : decode cX0_attacks 39 = .ok (.getfield 9, 3) := by decide +kernel
theorem dX0_attacks_42 : decode cX0_attacks 42 = .ok (.iload_n 1, 1) := by decide +kernel
theorem dX0_attacks_43 : decode cX0_attacks 43 = .ok (.iaload, 1) := by decide +kernel
theorem dX0_attacks_44 : decode cX0_attacks 44 = .ok (.bipush 8, 2) := by decide +kernel
theorem dX0_attacks_46 : decode cX0_attacks 46 = .ok (.if_icmp .ge 7, 3) := by decide +kernel
theorem dX0_attacks_49 : decode cX0_attacks 49 = .ok (.iconst 1, 1) := by decide +kernel
theorem dX0_attacks_50 : decode cX0_attacks 50 = .ok (.goto 4, 3) := by decide +kernel
theorem dX0_attacks_53 : decode cX0_attacks 53 = .ok (.iconst (-1), 1) := by decide +kernel
theorem dX0_attacks_54 : decode cX0_attacks 54 = .ok (.if_icmp .ne 14, 3) := by decide +kernel
theorem dX0_attacks_57 : decode cX0_attacks 57 = .ok (.iload_n 3, 1) := by decide +kernel
theorem dX0_attacks_58 : decode cX0_attacks 58 = .ok (.iload_n 3, 1) := by decide +kernel
theorem dX0_attacks_59 : decode cX0_attacks 59 = .ok (.imul, 1) := by decide +kernel
theorem dX0_attacks_60 : decode cX0_attacks 60 = .ok (.iconst 1, 1) := by decide +kernel
theorem dX0_attacks_61 : decode cX0_attacks 61 = .ok (.if_icmp .ne 7, 3) := by decide +kernel
theorem dX0_attacks_64 : decode cX0_attacks 64 = .ok (.iconst 1, 1) := by decide +kernel
theorem dX0_attacks_65 : decode cX0_attacks 65 = .ok (.goto 4, 3) := by decide +kernel
theorem dX0_attacks_68 : decode cX0_attacks 68 = .ok (.iconst 0, 1) := by decide +kernel
theorem dX0_attacks_69 : decode cX0_attacks 69 = .ok (.ireturn, 1) := by decide +kernel
theorem dX0_attacks_70 : decode cX0_attacks 70 = .ok (.iload 5, 2) := by decide +kernel
theorem dX0_attacks_72 : decode cX0_attacks 72 = .ok (.iconst 2, 1) := by decide +kernel
theorem dX0_attacks_73 : decode cX0_attacks 73 = .ok (.if_icmp .ne 22, 3) := by decide +kernel
theorem dX0_attacks_76 : decode cX0_attacks 76 = .ok (.iload_n 3, 1) := by decide +kernel
theorem dX0_attacks_77 : decode cX0_attacks 77 = .ok (.iload_n 3, 1) := by decide +kernel
theorem dX0_attacks_78 : decode cX0_attacks 78 = .ok (.imul, 1) := by decide +kernel
theorem dX0_attacks_79 : decode cX0_attacks 79 = .ok (.iload 4, 2) := by decide +kernel
theorem dX0_attacks_81 : decode cX0_attacks 81 = .ok (.iload 4, 2) := by decide +kernel
theorem dX0_attacks_83 : decode cX0_attacks 83 = .ok (.imul, 1) := by decide +kernel
theorem dX0_attacks_84 : decode cX0_attacks 84 = .ok (.iadd, 1) := by decide +kernel
theorem dX0_attacks_85 : decode cX0_attacks 85 = .ok (.iconst 5, 1) := by decide +kernel
theorem dX0_attacks_86 : decode cX0_attacks 86 = .ok (.if_icmp .ne 7, 3) := by decide +kernel
theorem dX0_attacks_89 : decode cX0_attacks 89 = .ok (.iconst 1, 1) := by decide +kernel
theorem dX0_attacks_90 : decode cX0_attacks 90 = .ok (.goto 4, 3) := by decide +kernel
theorem dX0_attacks_93 : decode cX0_attacks 93 = .ok (.iconst 0, 1) := by decide +kernel
theorem dX0_attacks_94 : decode cX0_attacks 94 = .ok (.ireturn, 1) := by decide +kernel
theorem dX0_attacks_95 : decode cX0_attacks 95 = .ok (.iload_n 3, 1) := by decide +kernel
theorem dX0_attacks_96 : decode cX0_attacks 96 = .ok (.ifCond .ge 8, 3) := by decide +kernel
theorem dX0_attacks_99 : decode cX0_attacks 99 = .ok (.iload_n 3, 1) := by decide +kernel
theorem dX0_attacks_100 : decode cX0_attacks 100 = .ok (.ineg, 1) := by decide +kernel
theorem dX0_attacks_101 : decode cX0_attacks 101 = .ok (.goto 4, 3) := by decide +kernel
theorem dX0_attacks_104 : decode cX0_attacks 104 = .ok (.iload_n 3, 1) := by decide +kernel
theorem dX0_attacks_105 : decode cX0_attacks 105 = .ok (.istore 6, 2) := by decide +kernel
theorem dX0_attacks_107 : decode cX0_attacks 107 = .ok (.iload 4, 2) := by decide +kernel
theorem dX0_attacks_109 : decode cX0_attacks 109 = .ok (.ifCond .ge 9, 3) := by decide +kernel
theorem dX0_attacks_112 : decode cX0_attacks 112 = .ok (.iload 4, 2) := by decide +kernel
theorem dX0_attacks_114 : decode cX0_attacks 114 = .ok (.ineg, 1) := by decide +kernel
theorem dX0_attacks_115 : decode cX0_attacks 115 = .ok (.goto 5, 3) := by decide +kernel
theorem dX0_attacks_118 : decode cX0_attacks 118 = .ok (.iload 4, 2) := by decide +kernel
theorem dX0_attacks_120 : decode cX0_attacks 120 = .ok (.istore 7, 2) := by decide +kernel
theorem dX0_attacks_122 : decode cX0_attacks 122 = .ok (.iload 6, 2) := by decide +kernel
theorem dX0_attacks_124 : decode cX0_attacks 124 = .ok (.iload 7, 2) := by decide +kernel
theorem dX0_attacks_126 : decode cX0_attacks 126 = .ok (.if_icmp .le 8, 3) := by decide +kernel
theorem dX0_attacks_129 : decode cX0_attacks 129 = .ok (.iload 6, 2) := by decide +kernel
theorem dX0_attacks_131 : decode cX0_attacks 131 = .ok (.goto 5, 3) := by decide +kernel
theorem dX0_attacks_134 : decode cX0_attacks 134 = .ok (.iload 7, 2) := by decide +kernel
theorem dX0_attacks_136 : decode cX0_attacks 136 = .ok (.istore 8, 2) := by decide +kernel
theorem dX0_attacks_138 : decode cX0_attacks 138 = .ok (.iload 5, 2) := by decide +kernel
theorem dX0_attacks_140 : decode cX0_attacks 140 = .ok (.bipush 6, 2) := by decide +kernel
theorem dX0_attacks_142 : decode cX0_attacks 142 = .ok (.if_icmp .ne 15, 3) := by decide +kernel
theorem dX0_attacks_145 : decode cX0_attacks 145 = .ok (.iload 8, 2) := by decide +kernel
theorem dX0_attacks_147 : decode cX0_attacks 147 = .ok (.iconst 1, 1) := by decide +kernel
theorem dX0_attacks_148 : decode cX0_attacks 148 = .ok (.if_icmp .ne 7, 3) := by decide +kernel
theorem dX0_attacks_151 : decode cX0_attacks 151 = .ok (.iconst 1, 1) := by decide +kernel
theorem dX0_attacks_152 : decode cX0_attacks 152 = .ok (.goto 4, 3) := by decide +kernel
theorem dX0_attacks_155 : decode cX0_attacks 155 = .ok (.iconst 0, 1) := by decide +kernel
theorem dX0_attacks_156 : decode cX0_attacks 156 = .ok (.ireturn, 1) := by decide +kernel
theorem dX0_attacks_157 : decode cX0_attacks 157 = .ok (.iload 6, 2) := by decide +kernel
theorem dX0_attacks_159 : decode cX0_attacks 159 = .ok (.ifCond .eq 8, 3) := by decide +kernel
theorem dX0_attacks_162 : decode cX0_attacks 162 = .ok (.iload 7, 2) := by decide +kernel
theorem dX0_attacks_164 : decode cX0_attacks 164 = .ok (.ifCond .ne 7, 3) := by decide +kernel
theorem dX0_attacks_167 : decode cX0_attacks 167 = .ok (.iconst 1, 1) := by decide +kernel
theorem dX0_attacks_168 : decode cX0_attacks 168 = .ok (.goto 4, 3) := by decide +kernel
theorem dX0_attacks_171 : decode cX0_attacks 171 = .ok (.iconst 0, 1) := by decide +kernel
theorem dX0_attacks_172 : decode cX0_attacks 172 = .ok (.istore 9, 2) := by decide +kernel
theorem dX0_attacks_174 : decode cX0_attacks 174 = .ok (.iload 9, 2) := by decide +kernel
theorem dX0_attacks_176 : decode cX0_attacks 176 = .ok (.ifCond .eq 23, 3) := by decide +kernel
theorem dX0_attacks_179 : decode cX0_attacks 179 = .ok (.iload 5, 2) := by decide +kernel
theorem dX0_attacks_181 : decode cX0_attacks 181 = .ok (.iconst 4, 1) := by decide +kernel
theorem dX0_attacks_182 : decode cX0_attacks 182 = .ok (.if_icmp .eq 9, 3) := by decide +kernel
theorem dX0_attacks_185 : decode cX0_attacks 185 = .ok (.iload 5, 2) := by decide +kernel
theorem dX0_attacks_187 : decode cX0_attacks 187 = .ok (.iconst 5, 1) := by decide +kernel
theorem dX0_attacks_188 : decode cX0_attacks 188 = .ok (.if_icmp .ne 7, 3) := by decide +kernel
theorem dX0_attacks_191 : decode cX0_attacks 191 = .ok (.iconst 1, 1) := by decide +kernel
theorem dX0_attacks_192 : decode cX0_attacks 192 = .ok (.goto 31, 3) := by decide +kernel
theorem dX0_attacks_195 : decode cX0_attacks 195 = .ok (.iconst 0, 1) := by decide +kernel
theorem dX0_attacks_196 : decode cX0_attacks 196 = .ok (.goto 27, 3) := by decide +kernel
theorem dX0_attacks_199 : decode cX0_attacks 199 = .ok (.iload 6, 2) := by decide +kernel
theorem dX0_attacks_201 : decode cX0_attacks 201 = .ok (.iload 7, 2) := by decide +kernel
theorem dX0_attacks_203 : decode cX0_attacks 203 = .ok (.if_icmp .ne 19, 3) := by decide +kernel
theorem dX0_attacks_206 : decode cX0_attacks 206 = .ok (.iload 5, 2) := by decide +kernel
theorem dX0_attacks_208 : decode cX0_attacks 208 = .ok (.iconst 3, 1) := by decide +kernel
theorem dX0_attacks_209 : decode cX0_attacks 209 = .ok (.if_icmp .eq 9, 3) := by decide +kernel
theorem dX0_attacks_212 : decode cX0_attacks 212 = .ok (.iload 5, 2) := by decide +kernel
theorem dX0_attacks_214 : decode cX0_attacks 214 = .ok (.iconst 5, 1) := by decide +kernel
theorem dX0_attacks_215 : decode cX0_attacks 215 = .ok (.if_icmp .ne 7, 3) := by decide +kernel
theorem dX0_attacks_218 : decode cX0_attacks 218 = .ok (.iconst 1, 1) := by decide +kernel
theorem dX0_attacks_219 : decode cX0_attacks 219 = .ok (.goto 4, 3) := by decide +kernel
theorem dX0_attacks_222 : decode cX0_attacks 222 = .ok (.iconst 0, 1) := by decide +kernel
theorem dX0_attacks_223 : decode cX0_attacks 223 = .ok (.istore 10, 2) := by decide +kernel
theorem dX0_attacks_225 : decode cX0_attacks 225 = .ok (.iload 10, 2) := by decide +kernel
theorem dX0_attacks_227 : decode cX0_attacks 227 = .ok (.ifCond .eq 8, 3) := by decide +kernel
theorem dX0_attacks_230 : decode cX0_attacks 230 = .ok (.iload 8, 2) := by decide +kernel
theorem dX0_attacks_232 : decode cX0_attacks 232 = .ok (.ifCond .ne 5, 3) := by decide +kernel
theorem dX0_attacks_235 : decode cX0_attacks 235 = .ok (.iconst 0, 1) := by decide +kernel
theorem dX0_attacks_236 : decode cX0_attacks 236 = .ok (.ireturn, 1) := by decide +kernel
theorem dX0_attacks_237 : decode cX0_attacks 237 = .ok (.iload_n 3, 1) := by decide +kernel
theorem dX0_attacks_238 : decode cX0_attacks 238 = .ok (.ifCond .le 7, 3) := by decide +kernel
theorem dX0_attacks_241 : decode cX0_attacks 241 = .ok (.iconst 1, 1) := by decide +kernel
theorem dX0_attacks_242 : decode cX0_attacks 242 = .ok (.goto 12, 3) := by decide +kernel
theorem dX0_attacks_245 : decode cX0_attacks 245 = .ok (.iload_n 3, 1) := by decide +kernel
theorem dX0_attacks_246 : decode cX0_attacks 246 = .ok (.ifCond .ge 7, 3) := by decide +kernel
theorem dX0_attacks_249 : decode cX0_attacks 249 = .ok (.iconst (-1), 1) := by decide +kernel
theorem dX0_attacks_250 : decode cX0_attacks 250 = .ok (.goto 4, 3) := by decide +kernel
theorem dX0_attacks_253 : decode cX0_attacks 253 = .ok (.iconst 0, 1) := by decide +kernel
theorem dX0_attacks_254 : decode cX0_attacks 254 = .ok (.iload 4, 2) := by decide +kernel
theorem dX0_attacks_256 : decode cX0_attacks 256 = .ok (.ifCond .le 8, 3) := by decide +kernel
theorem dX0_attacks_259 : decode cX0_attacks 259 = .ok (.bipush 8, 2) := by decide +kernel
theorem dX0_attacks_261 : decode cX0_attacks 261 = .ok (.goto 14, 3) := by decide +kernel
theorem dX0_attacks_264 : decode cX0_attacks 264 = .ok (.iload 4, 2) := by decide +kernel
theorem dX0_attacks_266 : decode cX0_attacks 266 = .ok (.ifCond .ge 8, 3) := by decide +kernel
theorem dX0_attacks_269 : decode cX0_attacks 269 = .ok (.bipush (-8), 2) := by decide +kernel
theorem dX0_attacks_271 : decode cX0_attacks 271 = .ok (.goto 4, 3) := by decide +kernel
theorem dX0_attacks_274 : decode cX0_attacks 274 = .ok (.iconst 0, 1) := by decide +kernel
theorem dX0_attacks_275 : decode cX0_attacks 275 = .ok (.iadd, 1) := by decide +kernel
theorem dX0_attacks_276 : decode cX0_attacks 276 = .ok (.istore 11, 2) := by decide +kernel
theorem dX0_attacks_278 : decode cX0_attacks 278 = .ok (.iconst 1, 1) := by decide +kernel
theorem dX0_attacks_279 : decode cX0_attacks 279 = .ok (.istore 12, 2) := by decide +kernel
theorem dX0_attacks_281 : decode cX0_attacks 281 = .ok (.iload 12, 2) := by decide +kernel
theorem dX0_attacks_283 : decode cX0_attacks 283 = .ok (.iload 8, 2) := by decide +kernel
theorem dX0_attacks_285 : decode cX0_attacks 285 = .ok (.if_icmp .ge 26, 3) := by decide +kernel
theorem dX0_attacks_288 : decode cX0_attacks 288 = .ok (.aload_n 0, 1) := by decide +kernel
theorem dX0_attacks_289 : decode cX0_attacks 289 = .ok (.getfield 9, 3) := by decide +kernel
theorem dX0_attacks_292 : decode cX0_attacks 292 = .ok (.iload_n 1, 1) := by decide +kernel
theorem dX0_attacks_293 : decode cX0_attacks 293 = .ok (.iload 12, 2) := by decide +kernel
theorem dX0_attacks_295 : decode cX0_attacks 295 = .ok (.iload 11, 2) := by decide +kernel
theorem dX0_attacks_297 : decode cX0_attacks 297 = .ok (.imul, 1) := by decide +kernel
theorem dX0_attacks_298 : decode cX0_attacks 298 = .ok (.iadd, 1) := by decide +kernel
theorem dX0_attacks_299 : decode cX0_attacks 299 = .ok (.iaload, 1) := by decide +kernel
theorem dX0_attacks_300 : decode cX0_attacks 300 = .ok (.ifCond .eq 5, 3) := by decide +kernel
theorem dX0_attacks_303 : decode cX0_attacks 303 = .ok (.iconst 0, 1) := by decide +kernel
theorem dX0_attacks_304 : decode cX0_attacks 304 = .ok (.ireturn, 1) := by decide +kernel
theorem dX0_attacks_305 : decode cX0_attacks 305 = .ok (.iinc 12 1, 3) := by decide +kernel
theorem dX0_attacks_308 : decode cX0_attacks 308 = .ok (.goto (-27), 3) := by decide +kernel
theorem dX0_attacks_311 : decode cX0_attacks 311 = .ok (.iconst 1, 1) := by decide +kernel
theorem dX0_attacks_312 : decode cX0_attacks 312 = .ok (.ireturn, 1) := by decide +kernel
theorem dX0_reaches_0 : decode cX0_reaches 0 = .ok (.aload_n 0, 1) := by decide +kernel
theorem dX0_reaches_1 : decode cX0_reaches 1 = .ok (.getfield 9, 3) := by decide +kernel
theorem dX0_reaches_4 : decode cX0_reaches 4 = .ok (.iload_n 1, 1) := by decide +kernel
theorem dX0_reaches_5 : decode cX0_reaches 5 = .ok (.iaload, 1) := by decide +kernel
theorem dX0_reaches_6 : decode cX0_reaches 6 = .ok (.istore_n 3, 1) := by decide +kernel
theorem dX0_reaches_7 : decode cX0_reaches 7 = .ok (.iload_n 3, 1) := by decide +kernel
theorem dX0_reaches_8 : decode cX0_reaches 8 = .ok (.ifCond .eq 37, 3) := by decide +kernel
theorem dX0_reaches_11 : decode cX0_reaches 11 = .ok (.iload_n 3, 1) := by decide +kernel
theorem dX0_reaches_12 : decode cX0_reaches 12 = .ok (.iconst 3, 1) := by decide +kernel
theorem dX0_reaches_13 : decode cX0_reaches 13 = .ok (.ishr, 1) := by decide +kernel
theorem dX0_reaches_14 : decode cX0_reaches 14 = .ok (.aload_n 0, 1) := by decide +kernel
theorem dX0_reaches_15 : decode cX0_reaches 15 = .ok (.getfield 22, 3) := by decide +kernel
theorem dX0_reaches_18 : decode cX0_reaches 18 = .ok (.if_icmp .ne 27, 3) := by decide +kernel
theorem dX0_reaches_21 : decode cX0_reaches 21 = .ok (.aload_n 0, 1) := by decide +kernel
theorem dX0_reaches_22 : decode cX0_reaches 22 = .ok (.getfield 9, 3) := by decide +kernel
theorem dX0_reaches_25 : decode cX0_reaches 25 = .ok (.iload_n 2, 1) := by decide +kernel
theorem dX0_reaches_26 : decode cX0_reaches 26 = .ok (.iaload, 1) := by decide +kernel
theorem dX0_reaches_27 : decode cX0_reaches 27 = .ok (.ifCond .eq 20, 3) := by decide +kernel
theorem dX0_reaches_30 : decode cX0_reaches 30 = .ok (.aload_n 0, 1) := by decide +kernel
theorem dX0_reaches_31 : decode cX0_reaches 31 = .ok (.getfield 9, 3) := by decide +kernel
theorem dX0_reaches_34 : decode cX0_reaches 34 = .ok (.iload_n 2, 1) := by decide +kernel
theorem dX0_reaches_35 : decode cX0_reaches 35 = .ok (.iaload, 1) := by decide +kernel
theorem dX0_reaches_36 : decode cX0_reaches 36 = .ok (.iconst 3, 1) := by decide +kernel
theorem dX0_reaches_37 : decode cX0_reaches 37 = .ok (.ishr, 1) := by decide +kernel
theorem dX0_reaches_38 : decode cX0_reaches 38 = .ok (.aload_n 0, 1) := by decide +kernel
theorem dX0_reaches_39 : decode cX0_reaches 39 = .ok (.getfield 22, 3) := by decide +kernel
theorem dX0_reaches_42 : decode cX0_reaches 42 = .ok (.if_icmp .ne 5, 3) := by decide +kernel
theorem dX0_reaches_45 : decode cX0_reaches 45 = .ok (.iconst 0, 1) := by decide +kernel
theorem dX0_reaches_46 : decode cX0_reaches 46 = .ok (.ireturn, 1) := by decide +kernel
theorem dX0_reaches_47 : decode cX0_reaches 47 = .ok (.aload_n 0, 1) := by decide +kernel
theorem dX0_reaches_48 : decode cX0_reaches 48 = .ok (.iload_n 1, 1) := by decide +kernel
theorem dX0_reaches_49 : decode cX0_reaches 49 = .ok (.invokevirtual 54, 3) := by decide +kernel
theorem dX0_reaches_52 : decode cX0_reaches 52 = .ok (.iconst 1, 1) := by decide +kernel
theorem dX0_reaches_53 : decode cX0_reaches 53 = .ok (.if_icmp .ne 10, 3) := by decide +kernel
theorem dX0_reaches_56 : decode cX0_reaches 56 = .ok (.aload_n 0, 1) := by decide +kernel
theorem dX0_reaches_57 : decode cX0_reaches 57 = .ok (.iload_n 1, 1) := by decide +kernel
theorem dX0_reaches_58 : decode cX0_reaches 58 = .ok (.iload_n 2, 1) := by decide +kernel
theorem dX0_reaches_59 : decode cX0_reaches 59 = .ok (.invokevirtual 58, 3) := by decide +kernel
theorem dX0_reaches_62 : decode cX0_reaches 62 = .ok (.ireturn, 1) := by decide +kernel
theorem dX0_reaches_63 : decode cX0_reaches 63 = .ok (.aload_n 0, 1) := by decide +kernel
theorem dX0_reaches_64 : decode cX0_reaches 64 = .ok (.iload_n 1, 1) := by decide +kernel
theorem dX0_reaches_65 : decode cX0_reaches 65 = .ok (.iload_n 2, 1) := by decide +kernel
theorem dX0_reaches_66 : decode cX0_reaches 66 = .ok (.invokevirtual 50, 3) := by decide +kernel
theorem dX0_reaches_69 : decode cX0_reaches 69 = .ok (.ifCond .ne 21, 3) := by decide +kernel
theorem dX0_reaches_72 : decode cX0_reaches 72 = .ok (.aload_n 0, 1) := by decide +kernel
theorem dX0_reaches_73 : decode cX0_reaches 73 = .ok (.iload_n 1, 1) := by decide +kernel
theorem dX0_reaches_74 : decode cX0_reaches 74 = .ok (.iload_n 2, 1) := by decide +kernel
theorem dX0_reaches_75 : decode cX0_reaches 75 = .ok (.invokevirtual 61, 3) := by decide +kernel
theorem dX0_reaches_78 : decode cX0_reaches 78 = .ok (.ifCond .eq 16, 3) := by decide +kernel
theorem dX0_reaches_81 : decode cX0_reaches 81 = .ok (.aload_n 0, 1) := by decide +kernel
theorem dX0_reaches_82 : decode cX0_reaches 82 = .ok (.iload_n 1, 1) := by decide +kernel
theorem dX0_reaches_83 : decode cX0_reaches 83 = .ok (.iload_n 2, 1) := by decide +kernel
theorem dX0_reaches_84 : decode cX0_reaches 84 = .ok (.invokevirtual 64, 3) := by decide +kernel
theorem dX0_reaches_87 : decode cX0_reaches 87 = .ok (.ifCond .eq 7, 3) := by decide +kernel
theorem dX0_reaches_90 : decode cX0_reaches 90 = .ok (.iconst 1, 1) := by decide +kernel
theorem dX0_reaches_91 : decode cX0_reaches 91 = .ok (.goto 4, 3) := by decide +kernel
theorem dX0_reaches_94 : decode cX0_reaches 94 = .ok (.iconst 0, 1) := by decide +kernel
theorem dX0_reaches_95 : decode cX0_reaches 95 = .ok (.ireturn, 1) := by decide +kernel
theorem dX0_pawnReaches_0 : decode cX0_pawnReaches 0 = .ok (.aload_n 0, 1) := by decide +kernel
theorem dX0_pawnReaches_1 : decode cX0_pawnReaches 1 = .ok (.getfield 22, 3) := by decide +kernel
theorem dX0_pawnReaches_4 : decode cX0_pawnReaches 4 = .ok (.ifCond .ne 8, 3) := by decide +kernel
theorem dX0_pawnReaches_7 : decode cX0_pawnReaches 7 = .ok (.bipush 8, 2) := by decide +kernel
theorem dX0_pawnReaches_9 : decode cX0_pawnReaches 9 = .ok (.goto 5, 3) := by decide +kernel
theorem dX0_pawnReaches_12 : decode cX0_pawnReaches 12 = .ok (.bipush (-8), 2) := by decide +kernel
theorem dX0_pawnReaches_14 : decode cX0_pawnReaches 14 = .ok (.istore_n 3, 1) := by decide +kernel
theorem dX0_pawnReaches_15 : decode cX0_pawnReaches 15 = .ok (.iload_n 2, 1) := by decide +kernel
theorem dX0_pawnReaches_16 : decode cX0_pawnReaches 16 = .ok (.iload_n 1, 1) := by decide +kernel
theorem dX0_pawnReaches_17 : decode cX0_pawnReaches 17 = .ok (.iload_n 3, 1) := by decide +kernel
theorem dX0_pawnReaches_18 : decode cX0_pawnReaches 18 = .ok (.iadd, 1) := by decide +kernel
theorem dX0_pawnReaches_19 : decode cX0_pawnReaches 19 = .ok (.if_icmp .ne 18, 3) := by decide +kernel
theorem dX0_pawnReaches_22 : decode cX0_pawnReaches 22 = .ok (.aload_n 0, 1) := by decide +kernel
theorem dX0_pawnReaches_23 : decode cX0_pawnReaches 23 = .ok (.getfield 9, 3) := by decide +kernel
theorem dX0_pawnReaches_26 : decode cX0_pawnReaches 26 = .ok (.iload_n 2, 1) := by decide +kernel
theorem dX0_pawnReaches_27 : decode cX0_pawnReaches 27 = .ok (.iaload, 1) := by decide +kernel
theorem dX0_pawnReaches_28 : decode cX0_pawnReaches 28 = .ok (.ifCond .ne 7, 3) := by decide +kernel
theorem dX0_pawnReaches_31 : decode cX0_pawnReaches 31 = .ok (.iconst 1, 1) := by decide +kernel
theorem dX0_pawnReaches_32 : decode cX0_pawnReaches 32 = .ok (.goto 4, 3) := by decide +kernel
theorem dX0_pawnReaches_35 : decode cX0_pawnReaches 35 = .ok (.iconst 0, 1) := by decide +kernel
theorem dX0_pawnReaches_36 : decode cX0_pawnReaches 36 = .ok (.ireturn, 1) := by decide +kernel
theorem dX0_pawnReaches_37 : decode cX0_pawnReaches 37 = .ok (.iload_n 2, 1) := by decide +kernel
theorem dX0_pawnReaches_38 : decode cX0_pawnReaches 38 = .ok (.iload_n 1, 1) := by decide +kernel
theorem dX0_pawnReaches_39 : decode cX0_pawnReaches 39 = .ok (.iconst 2, 1) := by decide +kernel
theorem dX0_pawnReaches_40 : decode cX0_pawnReaches 40 = .ok (.iload_n 3, 1) := by decide +kernel
theorem dX0_pawnReaches_41 : decode cX0_pawnReaches 41 = .ok (.imul, 1) := by decide +kernel
theorem dX0_pawnReaches_42 : decode cX0_pawnReaches 42 = .ok (.iadd, 1) := by decide +kernel
theorem dX0_pawnReaches_43 : decode cX0_pawnReaches 43 = .ok (.if_icmp .ne 48, 3) := by decide +kernel
theorem dX0_pawnReaches_46 : decode cX0_pawnReaches 46 = .ok (.iload_n 1, 1) := by decide +kernel
theorem dX0_pawnReaches_47 : decode cX0_pawnReaches 47 = .ok (.iconst 3, 1) := by decide +kernel
theorem dX0_pawnReaches_48 : decode cX0_pawnReaches 48 = .ok (.ishr, 1) := by decide +kernel
theorem dX0_pawnReaches_49 : decode cX0_pawnReaches 49 = .ok (.aload_n 0, 1) := by decide +kernel
theorem dX0_pawnReaches_50 : decode cX0_pawnReaches 50 = .ok (.getfield 22, 3) := by decide +kernel
theorem dX0_pawnReaches_53 : decode cX0_pawnReaches 53 = .ok (.ifCond .ne 7, 3) := by decide +kernel
theorem dX0_pawnReaches_56 : decode cX0_pawnReaches 56 = .ok (.iconst 1, 1) := by decide +kernel
theorem dX0_pawnReaches_57 : decode cX0_pawnReaches 57 = .ok (.goto 5, 3) := by decide +kernel
theorem dX0_pawnReaches_60 : decode cX0_pawnReaches 60 = .ok (.bipush 6, 2) := by decide +kernel
theorem dX0_pawnReaches_62 : decode cX0_pawnReaches 62 = .ok (.if_icmp .ne 27, 3) := by decide +kernel
theorem dX0_pawnReaches_65 : decode cX0_pawnReaches 65 = .ok (.aload_n 0, 1) := by decide +kernel
theorem dX0_pawnReaches_66 : decode cX0_pawnReaches 66 = .ok (.getfield 9, 3) := by decide +kernel
theorem dX0_pawnReaches_69 : decode cX0_pawnReaches 69 = .ok (.iload_n 1, 1) := by decide +kernel
theorem dX0_pawnReaches_70 : decode cX0_pawnReaches 70 = .ok (.iload_n 3, 1) := by decide +kernel
theorem dX0_pawnReaches_71 : decode cX0_pawnReaches 71 = .ok (.iadd, 1) := by decide +kernel
theorem dX0_pawnReaches_72 : decode cX0_pawnReaches 72 = .ok (.iaload, 1) := by decide +kernel
theorem dX0_pawnReaches_73 : decode cX0_pawnReaches 73 = .ok (.ifCond .ne 16, 3) := by decide +kernel
theorem dX0_pawnReaches_76 : decode cX0_pawnReaches 76 = .ok (.aload_n 0, 1) := by decide +kernel
theorem dX0_pawnReaches_77 : decode cX0_pawnReaches 77 = .ok (.getfield 9, 3) := by decide +kernel
theorem dX0_pawnReaches_80 : decode cX0_pawnReaches 80 = .ok (.iload_n 2, 1) := by decide +kernel
theorem dX0_pawnReaches_81 : decode cX0_pawnReaches 81 = .ok (.iaload, 1) := by decide +kernel
theorem dX0_pawnReaches_82 : decode cX0_pawnReaches 82 = .ok (.ifCond .ne 7, 3) := by decide +kernel
theorem dX0_pawnReaches_85 : decode cX0_pawnReaches 85 = .ok (.iconst 1, 1) := by decide +kernel
theorem dX0_pawnReaches_86 : decode cX0_pawnReaches 86 = .ok (.goto 4, 3) := by decide +kernel
theorem dX0_pawnReaches_89 : decode cX0_pawnReaches 89 = .ok (.iconst 0, 1) := by decide +kernel
theorem dX0_pawnReaches_90 : decode cX0_pawnReaches 90 = .ok (.ireturn, 1) := by decide +kernel
theorem dX0_pawnReaches_91 : decode cX0_pawnReaches 91 = .ok (.aload_n 0, 1) := by decide +kernel
theorem dX0_pawnReaches_92 : decode cX0_pawnReaches 92 = .ok (.iload_n 1, 1) := by decide +kernel
theorem dX0_pawnReaches_93 : decode cX0_pawnReaches 93 = .ok (.iload_n 2, 1) := by decide +kernel
theorem dX0_pawnReaches_94 : decode cX0_pawnReaches 94 = .ok (.invokevirtual 50, 3) := by decide +kernel
theorem dX0_pawnReaches_97 : decode cX0_pawnReaches 97 = .ok (.ifCond .eq 24, 3) := by decide +kernel
theorem dX0_pawnReaches_100 : decode cX0_pawnReaches 100 = .ok (.aload_n 0, 1) := by decide +kernel
theorem dX0_pawnReaches_101 : decode cX0_pawnReaches 101 = .ok (.getfield 9, 3) := by decide +kernel
theorem dX0_pawnReaches_104 : decode cX0_pawnReaches 104 = .ok (.iload_n 2, 1) := by decide +kernel
theorem dX0_pawnReaches_105 : decode cX0_pawnReaches 105 = .ok (.iaload, 1) := by decide +kernel
theorem dX0_pawnReaches_106 : decode cX0_pawnReaches 106 = .ok (.ifCond .ne 11, 3) := by decide +kernel
theorem dX0_pawnReaches_109 : decode cX0_pawnReaches 109 = .ok (.iload_n 2, 1) := by decide +kernel
theorem dX0_pawnReaches_110 : decode cX0_pawnReaches 110 = .ok (.aload_n 0, 1) := by decide +kernel
theorem dX0_pawnReaches_111 : decode cX0_pawnReaches 111 = .ok (.getfield 28, 3) := by decide +kernel
theorem dX0_pawnReaches_114 : decode cX0_pawnReaches 114 = .ok (.if_icmp .ne 7, 3) := by decide +kernel
theorem dX0_pawnReaches_117 : decode cX0_pawnReaches 117 = .ok (.iconst 1, 1) := by decide +kernel
theorem dX0_pawnReaches_118 : decode cX0_pawnReaches 118 = .ok (.goto 4, 3) := by decide +kernel
theorem dX0_pawnReaches_121 : decode cX0_pawnReaches 121 = .ok (.iconst 0, 1) := by decide +kernel
theorem dX0_pawnReaches_122 : decode cX0_pawnReaches 122 = .ok (.ireturn, 1) := by decide +kernel
theorem dX0_castles_0 : decode cX0_castles 0 = .ok (.aload_n 0, 1) := by decide +kernel
theorem dX0_castles_1 : decode cX0_castles 1 = .ok (.getfield 9, 3) := by decide +kernel
theorem dX0_castles_4 : decode cX0_castles 4 = .ok (.iload_n 1, 1) := by decide +kernel
theorem dX0_castles_5 : decode cX0_castles 5 = .ok (.iaload, 1) := by decide +kernel
theorem dX0_castles_6 : decode cX0_castles 6 = .ok (.bipush 7, 2) := by decide +kernel
theorem dX0_castles_8 : decode cX0_castles 8 = .ok (.iand, 1) := by decide +kernel
theorem dX0_castles_9 : decode cX0_castles 9 = .ok (.bipush 6, 2) := by decide +kernel
theorem dX0_castles_11 : decode cX0_castles 11 = .ok (.if_icmp .ne 30, 3) := by decide +kernel
theorem dX0_castles_14 : decode cX0_castles 14 = .ok (.iload_n 1, 1) := by decide +kernel
theorem dX0_castles_15 : decode cX0_castles 15 = .ok (.iconst 3, 1) := by decide +kernel
theorem dX0_castles_16 : decode cX0_castles 16 = .ok (.ishr, 1) := by decide +kernel
theorem dX0_castles_17 : decode cX0_castles 17 = .ok (.iload_n 2, 1) := by decide +kernel
theorem dX0_castles_18 : decode cX0_castles 18 = .ok (.iconst 3, 1) := by decide +kernel
theorem dX0_castles_19 : decode cX0_castles 19 = .ok (.ishr, 1) := by decide +kernel
theorem dX0_castles_20 : decode cX0_castles 20 = .ok (.if_icmp .ne 21, 3) := by decide +kernel
theorem dX0_castles_23 : decode cX0_castles 23 = .ok (.iload_n 2, 1) := by decide +kernel
theorem dX0_castles_24 : decode cX0_castles 24 = .ok (.iload_n 1, 1) := by decide +kernel
theorem dX0_castles_25 : decode cX0_castles 25 = .ok (.iconst 2, 1) := by decide +kernel
theorem dX0_castles_26 : decode cX0_castles 26 = .ok (.iadd, 1) := by decide +kernel
theorem dX0_castles_27 : decode cX0_castles 27 = .ok (.if_icmp .eq 10, 3) := by decide +kernel
theorem dX0_castles_30 : decode cX0_castles 30 = .ok (.iload_n 2, 1) := by decide +kernel
theorem dX0_castles_31 : decode cX0_castles 31 = .ok (.iload_n 1, 1) := by decide +kernel
theorem dX0_castles_32 : decode cX0_castles 32 = .ok (.iconst 2, 1) := by decide +kernel
theorem dX0_castles_33 : decode cX0_castles 33 = .ok (.isub, 1) := by decide +kernel
theorem dX0_castles_34 : decode cX0_castles 34 = .ok (.if_icmp .ne 7, 3) := by decide +kernel
theorem dX0_castles_37 : decode cX0_castles 37 = .ok (.iconst 1, 1) := by decide +kernel
theorem dX0_castles_38 : decode cX0_castles 38 = .ok (.goto 4, 3) := by decide +kernel
theorem dX0_castles_41 : decode cX0_castles 41 = .ok (.iconst 0, 1) := by decide +kernel
theorem dX0_castles_42 : decode cX0_castles 42 = .ok (.ireturn, 1) := by decide +kernel
theorem dX0_castlingIsOpen_0 : decode cX0_castlingIsOpen 0 = .ok (.iload_n 2, 1) := by decide +kernel
theorem dX0_castlingIsOpen_1 : decode cX0_castlingIsOpen 1 = .ok (.iload_n 1, 1) := by decide +kernel
theorem dX0_castlingIsOpen_2 : decode cX0_castlingIsOpen 2 = .ok (.if_icmp .le 7, 3) := by decide +kernel
theorem dX0_castlingIsOpen_5 : decode cX0_castlingIsOpen 5 = .ok (.iconst 1, 1) := by decide +kernel
theorem dX0_castlingIsOpen_6 : decode cX0_castlingIsOpen 6 = .ok (.goto 4, 3) := by decide +kernel
theorem dX0_castlingIsOpen_9 : decode cX0_castlingIsOpen 9 = .ok (.iconst 2, 1) := by decide +kernel
theorem dX0_castlingIsOpen_10 : decode cX0_castlingIsOpen 10 = .ok (.aload_n 0, 1) := by decide +kernel
theorem dX0_castlingIsOpen_11 : decode cX0_castlingIsOpen 11 = .ok (.getfield 22, 3) := by decide +kernel
theorem dX0_castlingIsOpen_14 : decode cX0_castlingIsOpen 14 = .ok (.ifCond .ne 7, 3) := by decide +kernel
theorem dX0_castlingIsOpen_17 : decode cX0_castlingIsOpen 17 = .ok (.iconst 0, 1) := by decide +kernel
theorem dX0_castlingIsOpen_18 : decode cX0_castlingIsOpen 18 = .ok (.goto 4, 3) := by decide +kernel
theorem dX0_castlingIsOpen_21 : decode cX0_castlingIsOpen 21 = .ok (.iconst 2, 1) := by decide +kernel
theorem dX0_castlingIsOpen_22 : decode cX0_castlingIsOpen 22 = .ok (.ishl, 1) := by decide +kernel
theorem dX0_castlingIsOpen_23 : decode cX0_castlingIsOpen 23 = .ok (.istore_n 3, 1) := by decide +kernel
theorem dX0_castlingIsOpen_24 : decode cX0_castlingIsOpen 24 = .ok (.iload_n 1, 1) := by decide +kernel
theorem dX0_castlingIsOpen_25 : decode cX0_castlingIsOpen 25 = .ok (.aload_n 0, 1) := by decide +kernel
theorem dX0_castlingIsOpen_26 : decode cX0_castlingIsOpen 26 = .ok (.getfield 22, 3) := by decide +kernel
theorem dX0_castlingIsOpen_29 : decode cX0_castlingIsOpen 29 = .ok (.ifCond .ne 7, 3) := by decide +kernel
theorem dX0_castlingIsOpen_32 : decode cX0_castlingIsOpen 32 = .ok (.iconst 4, 1) := by decide +kernel
theorem dX0_castlingIsOpen_33 : decode cX0_castlingIsOpen 33 = .ok (.goto 5, 3) := by decide +kernel
theorem dX0_castlingIsOpen_36 : decode cX0_castlingIsOpen 36 = .ok (.bipush 60, 2) := by decide +kernel
theorem dX0_castlingIsOpen_38 : decode cX0_castlingIsOpen 38 = .ok (.if_icmp .ne 12, 3) := by decide +kernel
theorem dX0_castlingIsOpen_41 : decode cX0_castlingIsOpen 41 = .ok (.aload_n 0, 1) := by decide +kernel
theorem dX0_castlingIsOpen_42 : decode cX0_castlingIsOpen 42 = .ok (.getfield 25, 3) := by decide +kernel
theorem dX0_castlingIsOpen_45 : decode cX0_castlingIsOpen 45 = .ok (.iload_n 3, 1) := by decide +kernel
theorem dX0_castlingIsOpen_46 : decode cX0_castlingIsOpen 46 = .ok (.iand, 1) := by decide +kernel
theorem dX0_castlingIsOpen_47 : decode cX0_castlingIsOpen 47 = .ok (.ifCond .ne 5, 3) := by decide +kernel
theorem dX0_castlingIsOpen_50 : decode cX0_castlingIsOpen 50 = .ok (.iconst 0, 1) := by decide +kernel
theorem dX0_castlingIsOpen_51 : decode cX0_castlingIsOpen 51 = .ok (.ireturn, 1) := by decide +kernel
theorem dX0_castlingIsOpen_52 : decode cX0_castlingIsOpen 52 = .ok (.iload_n 2, 1) := by decide +kernel
theorem dX0_castlingIsOpen_53 : decode cX0_castlingIsOpen 53 = .ok (.iload_n 1, 1) := by decide +kernel
theorem dX0_castlingIsOpen_54 : decode cX0_castlingIsOpen 54 = .ok (.if_icmp .le 31, 3) := by decide +kernel
theorem dX0_castlingIsOpen_57 : decode cX0_castlingIsOpen 57 = .ok (.aload_n 0, 1) := by decide +kernel
theorem dX0_castlingIsOpen_58 : decode cX0_castlingIsOpen 58 = .ok (.getfield 9, 3) := by decide +kernel
theorem dX0_castlingIsOpen_61 : decode cX0_castlingIsOpen 61 = .ok (.iload_n 1, 1) := by decide +kernel
theorem dX0_castlingIsOpen_62 : decode cX0_castlingIsOpen 62 = .ok (.iconst 1, 1) := by decide +kernel
theorem dX0_castlingIsOpen_63 : decode cX0_castlingIsOpen 63 = .ok (.iadd, 1) := by decide +kernel
theorem dX0_castlingIsOpen_64 : decode cX0_castlingIsOpen 64 = .ok (.iaload, 1) := by decide +kernel
theorem dX0_castlingIsOpen_65 : decode cX0_castlingIsOpen 65 = .ok (.ifCond .ne 18, 3) := by decide +kernel
theorem dX0_castlingIsOpen_68 : decode cX0_castlingIsOpen 68 = .ok (.aload_n 0, 1) := by decide +kernel
theorem dX0_castlingIsOpen_69 : decode cX0_castlingIsOpen 69 = .ok (.getfield 9, 3) := by decide +kernel
theorem dX0_castlingIsOpen_72 : decode cX0_castlingIsOpen 72 = .ok (.iload_n 1, 1) := by decide +kernel
theorem dX0_castlingIsOpen_73 : decode cX0_castlingIsOpen 73 = .ok (.iconst 2, 1) := by decide +kernel
theorem dX0_castlingIsOpen_74 : decode cX0_castlingIsOpen 74 = .ok (.iadd, 1) := by decide +kernel
theorem dX0_castlingIsOpen_75 : decode cX0_castlingIsOpen 75 = .ok (.iaload, 1) := by decide +kernel
theorem dX0_castlingIsOpen_76 : decode cX0_castlingIsOpen 76 = .ok (.ifCond .ne 7, 3) := by decide +kernel
theorem dX0_castlingIsOpen_79 : decode cX0_castlingIsOpen 79 = .ok (.iconst 1, 1) := by decide +kernel
theorem dX0_castlingIsOpen_80 : decode cX0_castlingIsOpen 80 = .ok (.goto 4, 3) := by decide +kernel
theorem dX0_castlingIsOpen_83 : decode cX0_castlingIsOpen 83 = .ok (.iconst 0, 1) := by decide +kernel
theorem dX0_castlingIsOpen_84 : decode cX0_castlingIsOpen 84 = .ok (.ireturn, 1) := by decide +kernel
theorem dX0_castlingIsOpen_85 : decode cX0_castlingIsOpen 85 = .ok (.aload_n 0, 1) := by decide +kernel
theorem dX0_castlingIsOpen_86 : decode cX0_castlingIsOpen 86 = .ok (.getfield 9, 3) := by decide +kernel
theorem dX0_castlingIsOpen_89 : decode cX0_castlingIsOpen 89 = .ok (.iload_n 1, 1) := by decide +kernel
theorem dX0_castlingIsOpen_90 : decode cX0_castlingIsOpen 90 = .ok (.iconst 1, 1) := by decide +kernel
theorem dX0_castlingIsOpen_91 : decode cX0_castlingIsOpen 91 = .ok (.isub, 1) := by decide +kernel
theorem dX0_castlingIsOpen_92 : decode cX0_castlingIsOpen 92 = .ok (.iaload, 1) := by decide +kernel
theorem dX0_castlingIsOpen_93 : decode cX0_castlingIsOpen 93 = .ok (.ifCond .ne 29, 3) := by decide +kernel
theorem dX0_castlingIsOpen_96 : decode cX0_castlingIsOpen 96 = .ok (.aload_n 0, 1) := by decide +kernel
theorem dX0_castlingIsOpen_97 : decode cX0_castlingIsOpen 97 = .ok (.getfield 9, 3) := by decide +kernel
theorem dX0_castlingIsOpen_100 : decode cX0_castlingIsOpen 100 = .ok (.iload_n 1, 1) := by decide +kernel
theorem dX0_castlingIsOpen_101 : decode cX0_castlingIsOpen 101 = .ok (.iconst 2, 1) := by decide +kernel
theorem dX0_castlingIsOpen_102 : decode cX0_castlingIsOpen 102 = .ok (.isub, 1) := by decide +kernel
theorem dX0_castlingIsOpen_103 : decode cX0_castlingIsOpen 103 = .ok (.iaload, 1) := by decide +kernel
theorem dX0_castlingIsOpen_104 : decode cX0_castlingIsOpen 104 = .ok (.ifCond .ne 18, 3) := by decide +kernel
theorem dX0_castlingIsOpen_107 : decode cX0_castlingIsOpen 107 = .ok (.aload_n 0, 1) := by decide +kernel
theorem dX0_castlingIsOpen_108 : decode cX0_castlingIsOpen 108 = .ok (.getfield 9, 3) := by decide +kernel
theorem dX0_castlingIsOpen_111 : decode cX0_castlingIsOpen 111 = .ok (.iload_n 1, 1) := by decide +kernel
theorem dX0_castlingIsOpen_112 : decode cX0_castlingIsOpen 112 = .ok (.iconst 3, 1) := by decide +kernel
theorem dX0_castlingIsOpen_113 : decode cX0_castlingIsOpen 113 = .ok (.isub, 1) := by decide +kernel
theorem dX0_castlingIsOpen_114 : decode cX0_castlingIsOpen 114 = .ok (.iaload, 1) := by decide +kernel
theorem dX0_castlingIsOpen_115 : decode cX0_castlingIsOpen 115 = .ok (.ifCond .ne 7, 3) := by decide +kernel
theorem dX0_castlingIsOpen_118 : decode cX0_castlingIsOpen 118 = .ok (.iconst 1, 1) := by decide +kernel
theorem dX0_castlingIsOpen_119 : decode cX0_castlingIsOpen 119 = .ok (.goto 4, 3) := by decide +kernel
theorem dX0_castlingIsOpen_122 : decode cX0_castlingIsOpen 122 = .ok (.iconst 0, 1) := by decide +kernel
theorem dX0_castlingIsOpen_123 : decode cX0_castlingIsOpen 123 = .ok (.ireturn, 1) := by decide +kernel
theorem dX0_takes_0 : decode cX0_takes 0 = .ok (.aload_n 0, 1) := by decide +kernel
theorem dX0_takes_1 : decode cX0_takes 1 = .ok (.getfield 9, 3) := by decide +kernel
theorem dX0_takes_4 : decode cX0_takes 4 = .ok (.iload_n 2, 1) := by decide +kernel
theorem dX0_takes_5 : decode cX0_takes 5 = .ok (.iaload, 1) := by decide +kernel
theorem dX0_takes_6 : decode cX0_takes 6 = .ok (.ifCond .ne 23, 3) := by decide +kernel
theorem dX0_takes_9 : decode cX0_takes 9 = .ok (.aload_n 0, 1) := by decide +kernel
theorem dX0_takes_10 : decode cX0_takes 10 = .ok (.iload_n 1, 1) := by decide +kernel
theorem dX0_takes_11 : decode cX0_takes 11 = .ok (.invokevirtual 54, 3) := by decide +kernel
theorem dX0_takes_14 : decode cX0_takes 14 = .ok (.iconst 1, 1) := by decide +kernel
theorem dX0_takes_15 : decode cX0_takes 15 = .ok (.if_icmp .ne 18, 3) := by decide +kernel
theorem dX0_takes_18 : decode cX0_takes 18 = .ok (.iload_n 1, 1) := by decide +kernel
theorem dX0_takes_19 : decode cX0_takes 19 = .ok (.bipush 7, 2) := by decide +kernel
theorem dX0_takes_21 : decode cX0_takes 21 = .ok (.iand, 1) := by decide +kernel
theorem dX0_takes_22 : decode cX0_takes 22 = .ok (.iload_n 2, 1) := by decide +kernel
theorem dX0_takes_23 : decode cX0_takes 23 = .ok (.bipush 7, 2) := by decide +kernel
theorem dX0_takes_25 : decode cX0_takes 25 = .ok (.iand, 1) := by decide +kernel
theorem dX0_takes_26 : decode cX0_takes 26 = .ok (.if_icmp .eq 7, 3) := by decide +kernel
theorem dX0_takes_29 : decode cX0_takes 29 = .ok (.iconst 1, 1) := by decide +kernel
theorem dX0_takes_30 : decode cX0_takes 30 = .ok (.goto 4, 3) := by decide +kernel
theorem dX0_takes_33 : decode cX0_takes 33 = .ok (.iconst 0, 1) := by decide +kernel
theorem dX0_takes_34 : decode cX0_takes 34 = .ok (.ireturn, 1) := by decide +kernel
theorem dX0_becomesAnother_0 : decode cX0_becomesAnother 0 = .ok (.aload_n 0, 1) := by decide +kernel
theorem dX0_becomesAnother_1 : decode cX0_becomesAnother 1 = .ok (.iload_n 1, 1) := by decide +kernel
theorem dX0_becomesAnother_2 : decode cX0_becomesAnother 2 = .ok (.invokevirtual 54, 3) := by decide +kernel
theorem dX0_becomesAnother_5 : decode cX0_becomesAnother 5 = .ok (.iconst 1, 1) := by decide +kernel
theorem dX0_becomesAnother_6 : decode cX0_becomesAnother 6 = .ok (.if_icmp .ne 19, 3) := by decide +kernel
theorem dX0_becomesAnother_9 : decode cX0_becomesAnother 9 = .ok (.iload_n 2, 1) := by decide +kernel
theorem dX0_becomesAnother_10 : decode cX0_becomesAnother 10 = .ok (.bipush 8, 2) := by decide +kernel
theorem dX0_becomesAnother_12 : decode cX0_becomesAnother 12 = .ok (.if_icmp .lt 9, 3) := by decide +kernel
theorem dX0_becomesAnother_15 : decode cX0_becomesAnother 15 = .ok (.iload_n 2, 1) := by decide +kernel
theorem dX0_becomesAnother_16 : decode cX0_becomesAnother 16 = .ok (.bipush 56, 2) := by decide +kernel
theorem dX0_becomesAnother_18 : decode cX0_becomesAnother 18 = .ok (.if_icmp .lt 7, 3) := by decide +kernel
theorem dX0_becomesAnother_21 : decode cX0_becomesAnother 21 = .ok (.iconst 1, 1) := by decide +kernel
theorem dX0_becomesAnother_22 : decode cX0_becomesAnother 22 = .ok (.goto 4, 3) := by decide +kernel
theorem dX0_becomesAnother_25 : decode cX0_becomesAnother 25 = .ok (.iconst 0, 1) := by decide +kernel
theorem dX0_becomesAnother_26 : decode cX0_becomesAnother 26 = .ok (.ireturn, 1) := by decide +kernel
theorem dX0_pawnAttacks_0 : decode cX0_pawnAttacks 0 = .ok (.iconst 1, 1) := by decide +kernel
theorem dX0_pawnAttacks_1 : decode cX0_pawnAttacks 1 = .ok (.bipush 8, 2) := by decide +kernel
theorem dX0_pawnAttacks_3 : decode cX0_pawnAttacks 3 = .ok (.iload_n 2, 1) := by decide +kernel
theorem dX0_pawnAttacks_4 : decode cX0_pawnAttacks 4 = .ok (.imul, 1) := by decide +kernel
theorem dX0_pawnAttacks_5 : decode cX0_pawnAttacks 5 = .ok (.iadd, 1) := by decide +kernel
theorem dX0_pawnAttacks_6 : decode cX0_pawnAttacks 6 = .ok (.istore_n 3, 1) := by decide +kernel
theorem dX0_pawnAttacks_7 : decode cX0_pawnAttacks 7 = .ok (.iload_n 1, 1) := by decide +kernel
theorem dX0_pawnAttacks_8 : decode cX0_pawnAttacks 8 = .ok (.iload_n 2, 1) := by decide +kernel
theorem dX0_pawnAttacks_9 : decode cX0_pawnAttacks 9 = .ok (.ifCond .ne 8, 3) := by decide +kernel
theorem dX0_pawnAttacks_12 : decode cX0_pawnAttacks 12 = .ok (.bipush (-8), 2) := by decide +kernel
theorem dX0_pawnAttacks_14 : decode cX0_pawnAttacks 14 = .ok (.goto 5, 3) := by decide +kernel
theorem dX0_pawnAttacks_17 : decode cX0_pawnAttacks 17 = .ok (.bipush 8, 2) := by decide +kernel
theorem dX0_pawnAttacks_19 : decode cX0_pawnAttacks 19 = .ok (.iadd, 1) := by decide +kernel
theorem dX0_pawnAttacks_20 : decode cX0_pawnAttacks 20 = .ok (.istore 4, 2) := by decide +kernel
theorem dX0_pawnAttacks_22 : decode cX0_pawnAttacks 22 = .ok (.iload 4, 2) := by decide +kernel
theorem dX0_pawnAttacks_24 : decode cX0_pawnAttacks 24 = .ok (.ifCond .lt 10, 3) := by decide +kernel
theorem dX0_pawnAttacks_27 : decode cX0_pawnAttacks 27 = .ok (.iload 4, 2) := by decide +kernel
theorem dX0_pawnAttacks_29 : decode cX0_pawnAttacks 29 = .ok (.bipush 64, 2) := by decide +kernel
theorem dX0_pawnAttacks_31 : decode cX0_pawnAttacks 31 = .ok (.if_icmp .lt 5, 3) := by decide +kernel
theorem dX0_pawnAttacks_34 : decode cX0_pawnAttacks 34 = .ok (.iconst 0, 1) := by decide +kernel
theorem dX0_pawnAttacks_35 : decode cX0_pawnAttacks 35 = .ok (.ireturn, 1) := by decide +kernel
theorem dX0_pawnAttacks_36 : decode cX0_pawnAttacks 36 = .ok (.iload 4, 2) := by decide +kernel
theorem dX0_pawnAttacks_38 : decode cX0_pawnAttacks 38 = .ok (.bipush 7, 2) := by decide +kernel
theorem dX0_pawnAttacks_40 : decode cX0_pawnAttacks 40 = .ok (.iand, 1) := by decide +kernel
theorem dX0_pawnAttacks_41 : decode cX0_pawnAttacks 41 = .ok (.ifCond .le 16, 3) := by decide +kernel
theorem dX0_pawnAttacks_44 : decode cX0_pawnAttacks 44 = .ok (.aload_n 0, 1) := by decide +kernel
theorem dX0_pawnAttacks_45 : decode cX0_pawnAttacks 45 = .ok (.getfield 9, 3) := by decide +kernel
theorem dX0_pawnAttacks_48 : decode cX0_pawnAttacks 48 = .ok (.iload 4, 2) := by decide +kernel
theorem dX0_pawnAttacks_50 : decode cX0_pawnAttacks 50 = .ok (.iconst 1, 1) := by decide +kernel
theorem dX0_pawnAttacks_51 : decode cX0_pawnAttacks 51 = .ok (.isub, 1) := by decide +kernel
theorem dX0_pawnAttacks_52 : decode cX0_pawnAttacks 52 = .ok (.iaload, 1) := by decide +kernel
theorem dX0_pawnAttacks_53 : decode cX0_pawnAttacks 53 = .ok (.iload_n 3, 1) := by decide +kernel
theorem dX0_pawnAttacks_54 : decode cX0_pawnAttacks 54 = .ok (.if_icmp .eq 26, 3) := by decide +kernel
theorem dX0_pawnAttacks_57 : decode cX0_pawnAttacks 57 = .ok (.iload 4, 2) := by decide +kernel
theorem dX0_pawnAttacks_59 : decode cX0_pawnAttacks 59 = .ok (.bipush 7, 2) := by decide +kernel
theorem dX0_pawnAttacks_61 : decode cX0_pawnAttacks 61 = .ok (.iand, 1) := by decide +kernel
theorem dX0_pawnAttacks_62 : decode cX0_pawnAttacks 62 = .ok (.bipush 7, 2) := by decide +kernel
theorem dX0_pawnAttacks_64 : decode cX0_pawnAttacks 64 = .ok (.if_icmp .ge 20, 3) := by decide +kernel
theorem dX0_pawnAttacks_67 : decode cX0_pawnAttacks 67 = .ok (.aload_n 0, 1) := by decide +kernel
theorem dX0_pawnAttacks_68 : decode cX0_pawnAttacks 68 = .ok (.getfield 9, 3) := by decide +kernel
theorem dX0_pawnAttacks_71 : decode cX0_pawnAttacks 71 = .ok (.iload 4, 2) := by decide +kernel
theorem dX0_pawnAttacks_73 : decode cX0_pawnAttacks 73 = .ok (.iconst 1, 1) := by decide +kernel
theorem dX0_pawnAttacks_74 : decode cX0_pawnAttacks 74 = .ok (.iadd, 1) := by decide +kernel
theorem dX0_pawnAttacks_75 : decode cX0_pawnAttacks 75 = .ok (.iaload, 1) := by decide +kernel
theorem dX0_pawnAttacks_76 : decode cX0_pawnAttacks 76 = .ok (.iload_n 3, 1) := by decide +kernel
theorem dX0_pawnAttacks_77 : decode cX0_pawnAttacks 77 = .ok (.if_icmp .ne 7, 3) := by decide +kernel
theorem dX0_pawnAttacks_80 : decode cX0_pawnAttacks 80 = .ok (.iconst 1, 1) := by decide +kernel
theorem dX0_pawnAttacks_81 : decode cX0_pawnAttacks 81 = .ok (.goto 4, 3) := by decide +kernel
theorem dX0_pawnAttacks_84 : decode cX0_pawnAttacks 84 = .ok (.iconst 0, 1) := by decide +kernel
theorem dX0_pawnAttacks_85 : decode cX0_pawnAttacks 85 = .ok (.ireturn, 1) := by decide +kernel
theorem dX0_play_0 : decode cX0_play 0 = .ok (.iload_n 1, 1) := by decide +kernel
theorem dX0_play_1 : decode cX0_play 1 = .ok (.bipush 63, 2) := by decide +kernel
theorem dX0_play_3 : decode cX0_play 3 = .ok (.iand, 1) := by decide +kernel
theorem dX0_play_4 : decode cX0_play 4 = .ok (.istore_n 2, 1) := by decide +kernel
theorem dX0_play_5 : decode cX0_play 5 = .ok (.iload_n 1, 1) := by decide +kernel
theorem dX0_play_6 : decode cX0_play 6 = .ok (.bipush 6, 2) := by decide +kernel
theorem dX0_play_8 : decode cX0_play 8 = .ok (.ishr, 1) := by decide +kernel
theorem dX0_play_9 : decode cX0_play 9 = .ok (.bipush 63, 2) := by decide +kernel
theorem dX0_play_11 : decode cX0_play 11 = .ok (.iand, 1) := by decide +kernel
theorem dX0_play_12 : decode cX0_play 12 = .ok (.istore_n 3, 1) := by decide +kernel
theorem dX0_play_13 : decode cX0_play 13 = .ok (.iload_n 1, 1) := by decide +kernel
theorem dX0_play_14 : decode cX0_play 14 = .ok (.bipush 12, 2) := by decide +kernel
theorem dX0_play_16 : decode cX0_play 16 = .ok (.ishr, 1) := by decide +kernel
theorem dX0_play_17 : decode cX0_play 17 = .ok (.bipush 7, 2) := by decide +kernel
theorem dX0_play_19 : decode cX0_play 19 = .ok (.iand, 1) := by decide +kernel
theorem dX0_play_20 : decode cX0_play 20 = .ok (.istore 4, 2) := by decide +kernel
theorem dX0_play_22 : decode cX0_play 22 = .ok (.aload_n 0, 1) := by decide +kernel
theorem dX0_play_23 : decode cX0_play 23 = .ok (.iload_n 2, 1) := by decide +kernel
theorem dX0_play_24 : decode cX0_play 24 = .ok (.invokevirtual 54, 3) := by decide +kernel
theorem dX0_play_27 : decode cX0_play 27 = .ok (.iconst 1, 1) := by decide +kernel
theorem dX0_play_28 : decode cX0_play 28 = .ok (.if_icmp .ne 7, 3) := by decide +kernel
theorem dX0_play_31 : decode cX0_play 31 = .ok (.iconst 1, 1) := by decide +kernel
theorem dX0_play_32 : decode cX0_play 32 = .ok (.goto 4, 3) := by decide +kernel
theorem dX0_play_35 : decode cX0_play 35 = .ok (.iconst 0, 1) := by decide +kernel
theorem dX0_play_36 : decode cX0_play 36 = .ok (.istore 5, 2) := by decide +kernel
theorem dX0_play_38 : decode cX0_play 38 = .ok (.iload 5, 2) := by decide +kernel
theorem dX0_play_40 : decode cX0_play 40 = .ok (.ifCond .eq 26, 3) := by decide +kernel
theorem dX0_play_43 : decode cX0_play 43 = .ok (.iload_n 3, 1) := by decide +kernel
theorem dX0_play_44 : decode cX0_play 44 = .ok (.aload_n 0, 1) := by decide +kernel
theorem dX0_play_45 : decode cX0_play 45 = .ok (.getfield 28, 3) := by decide +kernel
theorem dX0_play_48 : decode cX0_play 48 = .ok (.if_icmp .ne 18, 3) := by decide +kernel
theorem dX0_play_51 : decode cX0_play 51 = .ok (.aload_n 0, 1) := by decide +kernel
theorem dX0_play_52 : decode cX0_play 52 = .ok (.getfield 9, 3) := by decide +kernel
theorem dX0_play_55 : decode cX0_play 55 = .ok (.iload_n 2, 1) := by decide +kernel
theorem dX0_play_56 : decode cX0_play 56 = .ok (.bipush 56, 2) := by decide +kernel
theorem dX0_play_58 : decode cX0_play 58 = .ok (.iand, 1) := by decide +kernel
theorem dX0_play_59 : decode cX0_play 59 = .ok (.iload_n 3, 1) := by decide +kernel
theorem dX0_play_60 : decode cX0_play 60 = .ok (.bipush 7, 2) := by decide +kernel
theorem dX0_play_62 : decode cX0_play 62 = .ok (.iand, 1) := by decide +kernel
theorem dX0_play_63 : decode cX0_play 63 = .ok (.iadd, 1) := by decide +kernel
theorem dX0_play_64 : decode cX0_play 64 = .ok (.iconst 0, 1) := by decide +kernel
theorem dX0_play_65 : decode cX0_play 65 = .ok (.iastore, 1) := by decide +kernel
theorem dX0_play_66 : decode cX0_play 66 = .ok (.aload_n 0, 1) := by decide +kernel
theorem dX0_play_67 : decode cX0_play 67 = .ok (.iload_n 2, 1) := by decide +kernel
theorem dX0_play_68 : decode cX0_play 68 = .ok (.iload_n 3, 1) := by decide +kernel
theorem dX0_play_69 : decode cX0_play 69 = .ok (.invokevirtual 61, 3) := by decide +kernel
theorem dX0_play_72 : decode cX0_play 72 = .ok (.ifCond .eq 46, 3) := by decide +kernel
theorem dX0_play_75 : decode cX0_play 75 = .ok (.iload_n 3, 1) := by decide +kernel
theorem dX0_play_76 : decode cX0_play 76 = .ok (.iload_n 2, 1) := by decide +kernel
theorem dX0_play_77 : decode cX0_play 77 = .ok (.if_icmp .le 10, 3) := by decide +kernel
theorem dX0_play_80 : decode cX0_play 80 = .ok (.iload_n 2, 1) := by decide +kernel
theorem dX0_play_81 : decode cX0_play 81 = .ok (.bipush 7, 2) := by decide +kernel
theorem dX0_play_83 : decode cX0_play 83 = .ok (.ior, 1) := by decide +kernel
theorem dX0_play_84 : decode cX0_play 84 = .ok (.goto 7, 3) := by decide +kernel
theorem dX0_play_87 : decode cX0_play 87 = .ok (.iload_n 2, 1) := by decide +kernel
theorem dX0_play_88 : decode cX0_play 88 = .ok (.bipush 56, 2) := by decide +kernel
theorem dX0_play_90 : decode cX0_play 90 = .ok (.iand, 1) := by decide +kernel
theorem dX0_play_91 : decode cX0_play 91 = .ok (.istore 6, 2) := by decide +kernel
theorem dX0_play_93 : decode cX0_play 93 = .ok (.aload_n 0, 1) := by decide +kernel
theorem dX0_play_94 : decode cX0_play 94 = .ok (.getfield 9, 3) := by decide +kernel
theorem dX0_play_97 : decode cX0_play 97 = .ok (.iload_n 2, 1) := by decide +kernel
theorem dX0_play_98 : decode cX0_play 98 = .ok (.iload_n 3, 1) := by decide +kernel
theorem dX0_play_99 : decode cX0_play 99 = .ok (.iadd, 1) := by decide +kernel
theorem dX0_play_100 : decode cX0_play 100 = .ok (.iconst 2, 1) := by decide +kernel
theorem dX0_play_101 : decode cX0_play 101 = .ok (.idiv, 1) := by decide +kernel
theorem dX0_play_102 : decode cX0_play 102 = .ok (.aload_n 0, 1) := by decide +kernel
theorem dX0_play_103 : decode cX0_play 103 = .ok (.getfield 9, 3) := by decide +kernel
theorem dX0_play_106 : decode cX0_play 106 = .ok (.iload 6, 2) := by decide +kernel
theorem dX0_play_108 : decode cX0_play 108 = .ok (.iaload, 1) := by decide +kernel
theorem dX0_play_109 : decode cX0_play 109 = .ok (.iastore, 1) := by decide +kernel
theorem dX0_play_110 : decode cX0_play 110 = .ok (.aload_n 0, 1) := by decide +kernel
theorem dX0_play_111 : decode cX0_play 111 = .ok (.getfield 9, 3) := by decide +kernel
theorem dX0_play_114 : decode cX0_play 114 = .ok (.iload 6, 2) := by decide +kernel
theorem dX0_play_116 : decode cX0_play 116 = .ok (.iconst 0, 1) := by decide +kernel
theorem dX0_play_117 : decode cX0_play 117 = .ok (.iastore, 1) := by decide +kernel
theorem dX0_play_118 : decode cX0_play 118 = .ok (.aload_n 0, 1) := by decide +kernel
theorem dX0_play_119 : decode cX0_play 119 = .ok (.iload_n 3, 1) := by decide +kernel
theorem dX0_play_120 : decode cX0_play 120 = .ok (.iload 4, 2) := by decide +kernel
theorem dX0_play_122 : decode cX0_play 122 = .ok (.ifCond .ne 12, 3) := by decide +kernel
theorem dX0_play_125 : decode cX0_play 125 = .ok (.aload_n 0, 1) := by decide +kernel
theorem dX0_play_126 : decode cX0_play 126 = .ok (.getfield 9, 3) := by decide +kernel
theorem dX0_play_129 : decode cX0_play 129 = .ok (.iload_n 2, 1) := by decide +kernel
theorem dX0_play_130 : decode cX0_play 130 = .ok (.iaload, 1) := by decide +kernel
theorem dX0_play_131 : decode cX0_play 131 = .ok (.goto 13, 3) := by decide +kernel
theorem dX0_play_134 : decode cX0_play 134 = .ok (.iload 4, 2) := by decide +kernel
theorem dX0_play_136 : decode cX0_play 136 = .ok (.bipush 8, 2) := by decide +kernel
theorem dX0_play_138 : decode cX0_play 138 = .ok (.aload_n 0, 1) := by decide +kernel
theorem dX0_play_139 : decode cX0_play 139 = .ok (.getfield 22, 3) := by decide +kernel
theorem dX0_play_142 : decode cX0_play 142 = .ok (.imul, 1) := by decide +kernel
theorem dX0_play_143 : decode cX0_play 143 = .ok (.iadd, 1) := by decide +kernel
theorem dX0_play_144 : decode cX0_play 144 = .ok (.invokevirtual 40, 3) := by decide +kernel
theorem dX0_play_147 : decode cX0_play 147 = .ok (.aload_n 0, 1) := by decide +kernel
theorem dX0_play_148 : decode cX0_play 148 = .ok (.getfield 9, 3) := by decide +kernel
theorem dX0_play_151 : decode cX0_play 151 = .ok (.iload_n 2, 1) := by decide +kernel
theorem dX0_play_152 : decode cX0_play 152 = .ok (.iconst 0, 1) := by decide +kernel
theorem dX0_play_153 : decode cX0_play 153 = .ok (.iastore, 1) := by decide +kernel
theorem dX0_play_154 : decode cX0_play 154 = .ok (.aload_n 0, 1) := by decide +kernel
theorem dX0_play_155 : decode cX0_play 155 = .ok (.dup, 1) := by decide +kernel
theorem dX0_play_156 : decode cX0_play 156 = .ok (.getfield 25, 3) := by decide +kernel
theorem dX0_play_159 : decode cX0_play 159 = .ok (.iload_n 2, 1) := by decide +kernel
theorem dX0_play_160 : decode cX0_play 160 = .ok (.invokestatic 67, 3) := by decide +kernel
theorem dX0_play_163 : decode cX0_play 163 = .ok (.iload_n 3, 1) := by decide +kernel
theorem dX0_play_164 : decode cX0_play 164 = .ok (.invokestatic 67, 3) := by decide +kernel
theorem dX0_play_167 : decode cX0_play 167 = .ok (.ior, 1) := by decide +kernel
theorem dX0_play_168 : decode cX0_play 168 = .ok (.iconst (-1), 1) := by decide +kernel
theorem dX0_play_169 : decode cX0_play 169 = .ok (.ixor, 1) := by decide +kernel
theorem dX0_play_170 : decode cX0_play 170 = .ok (.iand, 1) := by decide +kernel
theorem dX0_play_171 : decode cX0_play 171 = .ok (.putfield 25, 3) := by decide +kernel
theorem dX0_play_174 : decode cX0_play 174 = .ok (.aload_n 0, 1) := by decide +kernel
theorem dX0_play_175 : decode cX0_play 175 = .ok (.iconst (-1), 1) := by decide +kernel
theorem dX0_play_176 : decode cX0_play 176 = .ok (.putfield 28, 3) := by decide +kernel
theorem dX0_play_179 : decode cX0_play 179 = .ok (.iload 5, 2) := by decide +kernel
theorem dX0_play_181 : decode cX0_play 181 = .ok (.ifCond .eq 46, 3) := by decide +kernel
theorem dX0_play_184 : decode cX0_play 184 = .ok (.iload_n 3, 1) := by decide +kernel
theorem dX0_play_185 : decode cX0_play 185 = .ok (.iload_n 2, 1) := by decide +kernel
theorem dX0_play_186 : decode cX0_play 186 = .ok (.bipush 16, 2) := by decide +kernel
theorem dX0_play_188 : decode cX0_play 188 = .ok (.iadd, 1) := by decide +kernel
theorem dX0_play_189 : decode cX0_play 189 = .ok (.if_icmp .eq 11, 3) := by decide +kernel
theorem dX0_play_192 : decode cX0_play 192 = .ok (.iload_n 3, 1) := by decide +kernel
theorem dX0_play_193 : decode cX0_play 193 = .ok (.iload_n 2, 1) := by decide +kernel
theorem dX0_play_194 : decode cX0_play 194 = .ok (.bipush 16, 2) := by decide +kernel
theorem dX0_play_196 : decode cX0_play 196 = .ok (.isub, 1) := by decide +kernel
theorem dX0_play_197 : decode cX0_play 197 = .ok (.if_icmp .ne 30, 3) := by decide +kernel
theorem dX0_play_200 : decode cX0_play 200 = .ok (.aload_n 0, 1) := by decide +kernel
theorem dX0_play_201 : decode cX0_play 201 = .ok (.iload_n 2, 1) := by decide +kernel
theorem dX0_play_202 : decode cX0_play 202 = .ok (.iload_n 3, 1) := by decide +kernel
theorem dX0_play_203 : decode cX0_play 203 = .ok (.iadd, 1) := by decide +kernel
theorem dX0_play_204 : decode cX0_play 204 = .ok (.iconst 2, 1) := by decide +kernel
theorem dX0_play_205 : decode cX0_play 205 = .ok (.idiv, 1) := by decide +kernel
theorem dX0_play_206 : decode cX0_play 206 = .ok (.iconst 1, 1) := by decide +kernel
theorem dX0_play_207 : decode cX0_play 207 = .ok (.aload_n 0, 1) := by decide +kernel
theorem dX0_play_208 : decode cX0_play 208 = .ok (.getfield 22, 3) := by decide +kernel
theorem dX0_play_211 : decode cX0_play 211 = .ok (.isub, 1) := by decide +kernel
theorem dX0_play_212 : decode cX0_play 212 = .ok (.invokevirtual 70, 3) := by decide +kernel
theorem dX0_play_215 : decode cX0_play 215 = .ok (.ifCond .eq 12, 3) := by decide +kernel
theorem dX0_play_218 : decode cX0_play 218 = .ok (.aload_n 0, 1) := by decide +kernel
theorem dX0_play_219 : decode cX0_play 219 = .ok (.iload_n 2, 1) := by decide +kernel
theorem dX0_play_220 : decode cX0_play 220 = .ok (.iload_n 3, 1) := by decide +kernel
theorem dX0_play_221 : decode cX0_play 221 = .ok (.iadd, 1) := by decide +kernel
theorem dX0_play_222 : decode cX0_play 222 = .ok (.iconst 2, 1) := by decide +kernel
theorem dX0_play_223 : decode cX0_play 223 = .ok (.idiv, 1) := by decide +kernel
theorem dX0_play_224 : decode cX0_play 224 = .ok (.putfield 28, 3) := by decide +kernel
theorem dX0_play_227 : decode cX0_play 227 = .ok (.aload_n 0, 1) := by decide +kernel
theorem dX0_play_228 : decode cX0_play 228 = .ok (.dup, 1) := by decide +kernel
theorem dX0_play_229 : decode cX0_play 229 = .ok (.getfield 31, 3) := by decide +kernel
theorem dX0_play_232 : decode cX0_play 232 = .ok (.aload_n 0, 1) := by decide +kernel
theorem dX0_play_233 : decode cX0_play 233 = .ok (.getfield 22, 3) := by decide +kernel
theorem dX0_play_236 : decode cX0_play 236 = .ok (.iadd, 1) := by decide +kernel
theorem dX0_play_237 : decode cX0_play 237 = .ok (.putfield 31, 3) := by decide +kernel
theorem dX0_play_240 : decode cX0_play 240 = .ok (.aload_n 0, 1) := by decide +kernel
theorem dX0_play_241 : decode cX0_play 241 = .ok (.iconst 1, 1) := by decide +kernel
theorem dX0_play_242 : decode cX0_play 242 = .ok (.aload_n 0, 1) := by decide +kernel
theorem dX0_play_243 : decode cX0_play 243 = .ok (.getfield 22, 3) := by decide +kernel
theorem dX0_play_246 : decode cX0_play 246 = .ok (.isub, 1) := by decide +kernel
theorem dX0_play_247 : decode cX0_play 247 = .ok (.putfield 22, 3) := by decide +kernel
theorem dX0_play_250 : decode cX0_play 250 = .ok (.return_, 1) := by decide +kernel
theorem dX0_rightsOf_0 : decode cX0_rightsOf 0 = .ok (.iload_n 0, 1) := by decide +kernel
theorem dX0_rightsOf_1 : decode cX0_rightsOf 1 = .ok (.lookupswitch 73 #[(0, 59), (4, 61), (7, 63), (56, 65), (60, 68), (63, 71)], 59) := by decide +kernel
theorem dX0_rightsOf_60 : decode cX0_rightsOf 60 = .ok (.iconst 2, 1) := by decide +kernel
theorem dX0_rightsOf_61 : decode cX0_rightsOf 61 = .ok (.ireturn, 1) := by decide +kernel
theorem dX0_rightsOf_62 : decode cX0_rightsOf 62 = .ok (.iconst 3, 1) := by decide +kernel
theorem dX0_rightsOf_63 : decode cX0_rightsOf 63 = .ok (.ireturn, 1) := by decide +kernel
theorem dX0_rightsOf_64 : decode cX0_rightsOf 64 = .ok (.iconst 1, 1) := by decide +kernel
theorem dX0_rightsOf_65 : decode cX0_rightsOf 65 = .ok (.ireturn, 1) := by decide +kernel
theorem dX0_rightsOf_66 : decode cX0_rightsOf 66 = .ok (.bipush 8, 2) := by decide +kernel
theorem dX0_rightsOf_68 : decode cX0_rightsOf 68 = .ok (.ireturn, 1) := by decide +kernel
theorem dX0_rightsOf_69 : decode cX0_rightsOf 69 = .ok (.bipush 12, 2) := by decide +kernel
theorem dX0_rightsOf_71 : decode cX0_rightsOf 71 = .ok (.ireturn, 1) := by decide +kernel
theorem dX0_rightsOf_72 : decode cX0_rightsOf 72 = .ok (.iconst 4, 1) := by decide +kernel
theorem dX0_rightsOf_73 : decode cX0_rightsOf 73 = .ok (.ireturn, 1) := by decide +kernel
theorem dX0_rightsOf_74 : decode cX0_rightsOf 74 = .ok (.iconst 0, 1) := by decide +kernel
theorem dX0_rightsOf_75 : decode cX0_rightsOf 75 = .ok (.ireturn, 1) := by decide +kernel
theorem dX1_init_0 : decode cX1_init 0 = .ok (.aload_n 0, 1) := by decide +kernel
theorem dX1_init_1 : decode cX1_init 1 = .ok (.invokespecial 3, 3) := by decide +kernel
theorem dX1_init_4 : decode cX1_init 4 = .ok (.aload_n 0, 1) := by decide +kernel
theorem dX1_init_5 : decode cX1_init 5 = .ok (.new 9, 3) := by decide +kernel
theorem dX1_init_8 : decode cX1_init 8 = .ok (.dup, 1) := by decide +kernel
theorem dX1_init_9 : decode cX1_init 9 = .ok (.invokespecial 11, 3) := by decide +kernel
theorem dX1_init_12 : decode cX1_init 12 = .ok (.putfield 12, 3) := by decide +kernel
theorem dX1_init_15 : decode cX1_init 15 = .ok (.aload_n 0, 1) := by decide +kernel
theorem dX1_init_16 : decode cX1_init 16 = .ok (.new 18, 3) := by decide +kernel
theorem dX1_init_19 : decode cX1_init 19 = .ok (.dup, 1) := by decide +kernel
theorem dX1_init_20 : decode cX1_init 20 = .ok (.invokespecial 20, 3) := by decide +kernel
theorem dX1_init_23 : decode cX1_init 23 = .ok (.putfield 21, 3) := by decide +kernel
theorem dX1_init_26 : decode cX1_init 26 = .ok (.aload_n 0, 1) := by decide +kernel
theorem dX1_init_27 : decode cX1_init 27 = .ok (.sipush 301, 3) := by decide +kernel
theorem dX1_init_30 : decode cX1_init 30 = .ok (.anewarray 18, 3) := by decide +kernel
theorem dX1_init_33 : decode cX1_init 33 = .ok (.putfield 25, 3) := by decide +kernel
theorem dX1_init_36 : decode cX1_init 36 = .ok (.aload_n 0, 1) := by decide +kernel
theorem dX1_init_37 : decode cX1_init 37 = .ok (.iconst 0, 1) := by decide +kernel
theorem dX1_init_38 : decode cX1_init 38 = .ok (.putfield 29, 3) := by decide +kernel
theorem dX1_init_41 : decode cX1_init 41 = .ok (.aload_n 0, 1) := by decide +kernel
theorem dX1_init_42 : decode cX1_init 42 = .ok (.bipush 8, 2) := by decide +kernel
theorem dX1_init_44 : decode cX1_init 44 = .ok (.anewarray 33, 3) := by decide +kernel
theorem dX1_init_47 : decode cX1_init 47 = .ok (.putfield 35, 3) := by decide +kernel
theorem dX1_init_50 : decode cX1_init 50 = .ok (.aload_n 0, 1) := by decide +kernel
theorem dX1_init_51 : decode cX1_init 51 = .ok (.iconst 0, 1) := by decide +kernel
theorem dX1_init_52 : decode cX1_init 52 = .ok (.putfield 39, 3) := by decide +kernel
theorem dX1_init_55 : decode cX1_init 55 = .ok (.aload_n 0, 1) := by decide +kernel
theorem dX1_init_56 : decode cX1_init 56 = .ok (.iconst 0, 1) := by decide +kernel
theorem dX1_init_57 : decode cX1_init 57 = .ok (.putfield 42, 3) := by decide +kernel
theorem dX1_init_60 : decode cX1_init 60 = .ok (.aload_n 0, 1) := by decide +kernel
theorem dX1_init_61 : decode cX1_init 61 = .ok (.sipush 301, 3) := by decide +kernel
theorem dX1_init_64 : decode cX1_init 64 = .ok (.newarray .int, 2) := by decide +kernel
theorem dX1_init_66 : decode cX1_init 66 = .ok (.putfield 45, 3) := by decide +kernel
theorem dX1_init_69 : decode cX1_init 69 = .ok (.aload_n 0, 1) := by decide +kernel
theorem dX1_init_70 : decode cX1_init 70 = .ok (.getfield 12, 3) := by decide +kernel
theorem dX1_init_73 : decode cX1_init 73 = .ok (.invokevirtual 49, 3) := by decide +kernel
theorem dX1_init_76 : decode cX1_init 76 = .ok (.return_, 1) := by decide +kernel
theorem dX1_wipe_0 : decode cX1_wipe 0 = .ok (.aload_n 0, 1) := by decide +kernel
theorem dX1_wipe_1 : decode cX1_wipe 1 = .ok (.getfield 12, 3) := by decide +kernel
theorem dX1_wipe_4 : decode cX1_wipe 4 = .ok (.invokevirtual 49, 3) := by decide +kernel
theorem dX1_wipe_7 : decode cX1_wipe 7 = .ok (.aload_n 0, 1) := by decide +kernel
theorem dX1_wipe_8 : decode cX1_wipe 8 = .ok (.getfield 21, 3) := by decide +kernel
theorem dX1_wipe_11 : decode cX1_wipe 11 = .ok (.iconst (-1), 1) := by decide +kernel
theorem dX1_wipe_12 : decode cX1_wipe 12 = .ok (.iconst (-1), 1) := by decide +kernel
theorem dX1_wipe_13 : decode cX1_wipe 13 = .ok (.invokevirtual 52, 3) := by decide +kernel
theorem dX1_wipe_16 : decode cX1_wipe 16 = .ok (.aload_n 0, 1) := by decide +kernel
theorem dX1_wipe_17 : decode cX1_wipe 17 = .ok (.iconst 0, 1) := by decide +kernel
theorem dX1_wipe_18 : decode cX1_wipe 18 = .ok (.putfield 29, 3) := by decide +kernel
theorem dX1_wipe_21 : decode cX1_wipe 21 = .ok (.aload_n 0, 1) := by decide +kernel
theorem dX1_wipe_22 : decode cX1_wipe 22 = .ok (.iconst 0, 1) := by decide +kernel
theorem dX1_wipe_23 : decode cX1_wipe 23 = .ok (.putfield 39, 3) := by decide +kernel
theorem dX1_wipe_26 : decode cX1_wipe 26 = .ok (.aload_n 0, 1) := by decide +kernel
theorem dX1_wipe_27 : decode cX1_wipe 27 = .ok (.iconst 0, 1) := by decide +kernel
theorem dX1_wipe_28 : decode cX1_wipe 28 = .ok (.putfield 42, 3) := by decide +kernel
theorem dX1_wipe_31 : decode cX1_wipe 31 = .ok (.return_, 1) := by decide +kernel
theorem dX1_has_0 : decode cX1_has 0 = .ok (.iload_n 1, 1) := by decide +kernel
theorem dX1_has_1 : decode cX1_has 1 = .ok (.ifCond .lt 15, 3) := by decide +kernel
theorem dX1_has_4 : decode cX1_has 4 = .ok (.iload_n 1, 1) := by decide +kernel
theorem dX1_has_5 : decode cX1_has 5 = .ok (.aload_n 0, 1) := by decide +kernel
theorem dX1_has_6 : decode cX1_has 6 = .ok (.getfield 29, 3) := by decide +kernel
theorem dX1_has_9 : decode cX1_has 9 = .ok (.if_icmp .gt 7, 3) := by decide +kernel
theorem dX1_has_12 : decode cX1_has 12 = .ok (.iconst 1, 1) := by decide +kernel
theorem dX1_has_13 : decode cX1_has 13 = .ok (.goto 4, 3) := by decide +kernel
theorem dX1_has_16 : decode cX1_has 16 = .ok (.iconst 0, 1) := by decide +kernel
theorem dX1_has_17 : decode cX1_has 17 = .ok (.ireturn, 1) := by decide +kernel
theorem dX1_at_0 : decode cX1_at 0 = .ok (.iload_n 1, 1) := by decide +kernel
theorem dX1_at_1 : decode cX1_at 1 = .ok (.ifCond .le 20, 3) := by decide +kernel
theorem dX1_at_4 : decode cX1_at 4 = .ok (.iload_n 1, 1) := by decide +kernel
theorem dX1_at_5 : decode cX1_at 5 = .ok (.aload_n 0, 1) := by decide +kernel
theorem dX1_at_6 : decode cX1_at 6 = .ok (.getfield 29, 3) := by decide +kernel
theorem dX1_at_9 : decode cX1_at 9 = .ok (.if_icmp .gt 12, 3) := by decide +kernel
theorem dX1_at_12 : decode cX1_at 12 = .ok (.aload_n 0, 1) := by decide +kernel
theorem dX1_at_13 : decode cX1_at 13 = .ok (.getfield 25, 3) := by decide +kernel
theorem dX1_at_16 : decode cX1_at 16 = .ok (.iload_n 1, 1) := by decide +kernel
theorem dX1_at_17 : decode cX1_at 17 = .ok (.aaload, 1) := by decide +kernel
theorem dX1_at_18 : decode cX1_at 18 = .ok (.goto 4, 3) := by decide +kernel
theorem dX1_at_21 : decode cX1_at 21 = .ok (.aconst_null, 1) := by decide +kernel
theorem dX1_at_22 : decode cX1_at 22 = .ok (.astore_n 2, 1) := by decide +kernel
theorem dX1_at_23 : decode cX1_at 23 = .ok (.aload_n 2, 1) := by decide +kernel
theorem dX1_at_24 : decode cX1_at 24 = .ok (.ifnull 7, 3) := by decide +kernel
theorem dX1_at_27 : decode cX1_at 27 = .ok (.aload_n 2, 1) := by decide +kernel
theorem dX1_at_28 : decode cX1_at 28 = .ok (.goto 7, 3) := by decide +kernel
theorem dX1_at_31 : decode cX1_at 31 = .ok (.aload_n 0, 1) := by decide +kernel
theorem dX1_at_32 : decode cX1_at 32 = .ok (.getfield 21, 3) := by decide +kernel
theorem dX1_at_35 : decode cX1_at 35 = .ok (.areturn, 1) := by decide +kernel
theorem dX1_childWith_0 : decode cX1_childWith 0 = .ok (.aload_n 0, 1) := by decide +kernel
theorem dX1_childWith_1 : decode cX1_childWith 1 = .ok (.iload_n 1, 1) := by decide +kernel
theorem dX1_childWith_2 : decode cX1_childWith 2 = .ok (.invokevirtual 56, 3) := by decide +kernel
theorem dX1_childWith_5 : decode cX1_childWith 5 = .ok (.getfield 60, 3) := by decide +kernel
theorem dX1_childWith_8 : decode cX1_childWith 8 = .ok (.istore_n 3, 1) := by decide +kernel
theorem dX1_childWith_9 : decode cX1_childWith 9 = .ok (.iconst 0, 1) := by decide +kernel
theorem dX1_childWith_10 : decode cX1_childWith 10 = .ok (.istore 4, 2) := by decide +kernel
theorem dX1_childWith_12 : decode cX1_childWith 12 = .ok (.iload 4, 2) := by decide +kernel
theorem dX1_childWith_14 : decode cX1_childWith 14 = .ok (.sipush 300, 3) := by decide +kernel
theorem dX1_childWith_17 : decode cX1_childWith 17 = .ok (.if_icmp .ge 35, 3) := by decide +kernel
theorem dX1_childWith_20 : decode cX1_childWith 20 = .ok (.iload_n 3, 1) := by decide +kernel
theorem dX1_childWith_21 : decode cX1_childWith 21 = .ok (.iconst (-1), 1) := by decide +kernel
theorem dX1_childWith_22 : decode cX1_childWith 22 = .ok (.if_icmp .eq 30, 3) := by decide +kernel
theorem dX1_childWith_25 : decode cX1_childWith 25 = .ok (.aload_n 0, 1) := by decide +kernel
theorem dX1_childWith_26 : decode cX1_childWith 26 = .ok (.iload_n 3, 1) := by decide +kernel
theorem dX1_childWith_27 : decode cX1_childWith 27 = .ok (.invokevirtual 56, 3) := by decide +kernel
theorem dX1_childWith_30 : decode cX1_childWith 30 = .ok (.getfield 63, 3) := by decide +kernel
theorem dX1_childWith_33 : decode cX1_childWith 33 = .ok (.iload_n 2, 1) := by decide +kernel
theorem dX1_childWith_34 : decode cX1_childWith 34 = .ok (.if_icmp .eq 18, 3) := by decide +kernel
theorem dX1_childWith_37 : decode cX1_childWith 37 = .ok (.aload_n 0, 1) := by decide +kernel
theorem dX1_childWith_38 : decode cX1_childWith 38 = .ok (.iload_n 3, 1) := by decide +kernel
theorem dX1_childWith_39 : decode cX1_childWith 39 = .ok (.invokevirtual 56, 3) := by decide +kernel
theorem dX1_childWith_42 : decode cX1_childWith 42 = .ok (.getfield 66, 3) := by decide +kernel
theorem dX1_childWith_45 : decode cX1_childWith 45 = .ok (.istore_n 3, 1) := by decide +kernel
theorem dX1_childWith_46 : decode cX1_childWith 46 = .ok (.iinc 4 1, 3) := by decide +kernel
theorem dX1_childWith_49 : decode cX1_childWith 49 = .ok (.goto (-37), 3) := by decide +kernel
theorem dX1_childWith_52 : decode cX1_childWith 52 = .ok (.iload_n 3, 1) := by decide +kernel
theorem dX1_childWith_53 : decode cX1_childWith 53 = .ok (.ireturn, 1) := by decide +kernel
theorem dX1_grow_0 : decode cX1_grow 0 = .ok (.aload_n 0, 1) := by decide +kernel
theorem dX1_grow_1 : decode cX1_grow 1 = .ok (.getfield 29, 3) := by decide +kernel
theorem dX1_grow_4 : decode cX1_grow 4 = .ok (.sipush 300, 3) := by decide +kernel
theorem dX1_grow_7 : decode cX1_grow 7 = .ok (.if_icmp .lt 5, 3) := by decide +kernel
theorem dX1_grow_10 : decode cX1_grow 10 = .ok (.iconst (-1), 1) := by decide +kernel
theorem dX1_grow_11 : decode cX1_grow 11 = .ok (.ireturn, 1) := by decide +kernel
theorem dX1_grow_12 : decode cX1_grow 12 = .ok (.aload_n 0, 1) := by decide +kernel
theorem dX1_grow_13 : decode cX1_grow 13 = .ok (.iload_n 1, 1) := by decide +kernel
theorem dX1_grow_14 : decode cX1_grow 14 = .ok (.invokevirtual 56, 3) := by decide +kernel
theorem dX1_grow_17 : decode cX1_grow 17 = .ok (.getfield 60, 3) := by decide +kernel
theorem dX1_grow_20 : decode cX1_grow 20 = .ok (.istore_n 3, 1) := by decide +kernel
theorem dX1_grow_21 : decode cX1_grow 21 = .ok (.iconst 0, 1) := by decide +kernel
theorem dX1_grow_22 : decode cX1_grow 22 = .ok (.istore 4, 2) := by decide +kernel
theorem dX1_grow_24 : decode cX1_grow 24 = .ok (.iload 4, 2) := by decide +kernel
theorem dX1_grow_26 : decode cX1_grow 26 = .ok (.sipush 300, 3) := by decide +kernel
theorem dX1_grow_29 : decode cX1_grow 29 = .ok (.if_icmp .ge 35, 3) := by decide +kernel
theorem dX1_grow_32 : decode cX1_grow 32 = .ok (.iload_n 3, 1) := by decide +kernel
theorem dX1_grow_33 : decode cX1_grow 33 = .ok (.iconst (-1), 1) := by decide +kernel
theorem dX1_grow_34 : decode cX1_grow 34 = .ok (.if_icmp .eq 30, 3) := by decide +kernel
theorem dX1_grow_37 : decode cX1_grow 37 = .ok (.aload_n 0, 1) := by decide +kernel
theorem dX1_grow_38 : decode cX1_grow 38 = .ok (.iload_n 3, 1) := by decide +kernel
theorem dX1_grow_39 : decode cX1_grow 39 = .ok (.invokevirtual 56, 3) := by decide +kernel
theorem dX1_grow_42 : decode cX1_grow 42 = .ok (.getfield 66, 3) := by decide +kernel
theorem dX1_grow_45 : decode cX1_grow 45 = .ok (.iconst (-1), 1) := by decide +kernel
theorem dX1_grow_46 : decode cX1_grow 46 = .ok (.if_icmp .eq 18, 3) := by decide +kernel
theorem dX1_grow_49 : decode cX1_grow 49 = .ok (.aload_n 0, 1) := by decide +kernel
theorem dX1_grow_50 : decode cX1_grow 50 = .ok (.iload_n 3, 1) := by decide +kernel
theorem dX1_grow_51 : decode cX1_grow 51 = .ok (.invokevirtual 56, 3) := by decide +kernel
theorem dX1_grow_54 : decode cX1_grow 54 = .ok (.getfield 66, 3) := by decide +kernel
theorem dX1_grow_57 : decode cX1_grow 57 = .ok (.istore_n 3, 1) := by decide +kernel
theorem dX1_grow_58 : decode cX1_grow 58 = .ok (.iinc 4 1, 3) := by decide +kernel
theorem dX1_grow_61 : decode cX1_grow 61 = .ok (.goto (-37), 3) := by decide +kernel
theorem dX1_grow_64 : decode cX1_grow 64 = .ok (.aload_n 0, 1) := by decide +kernel
theorem dX1_grow_65 : decode cX1_grow 65 = .ok (.dup, 1) := by decide +kernel
theorem dX1_grow_66 : decode cX1_grow 66 = .ok (.getfield 29, 3) := by decide +kernel
theorem dX1_grow_69 : decode cX1_grow 69 = .ok (.iconst 1, 1) := by decide +kernel
theorem dX1_grow_70 : decode cX1_grow 70 = .ok (.iadd, 1) := by decide +kernel
theorem dX1_grow_71 : decode cX1_grow 71 = .ok (.putfield 29, 3) := by decide +kernel
theorem dX1_grow_74 : decode cX1_grow 74 = .ok (.aload_n 0, 1) := by decide +kernel
theorem dX1_grow_75 : decode cX1_grow 75 = .ok (.getfield 25, 3) := by decide +kernel
theorem dX1_grow_78 : decode cX1_grow 78 = .ok (.aload_n 0, 1) := by decide +kernel
theorem dX1_grow_79 : decode cX1_grow 79 = .ok (.getfield 29, 3) := by decide +kernel
theorem dX1_grow_82 : decode cX1_grow 82 = .ok (.aaload, 1) := by decide +kernel
theorem dX1_grow_83 : decode cX1_grow 83 = .ok (.ifnonnull 19, 3) := by decide +kernel
theorem dX1_grow_86 : decode cX1_grow 86 = .ok (.aload_n 0, 1) := by decide +kernel
theorem dX1_grow_87 : decode cX1_grow 87 = .ok (.getfield 25, 3) := by decide +kernel
theorem dX1_grow_90 : decode cX1_grow 90 = .ok (.aload_n 0, 1) := by decide +kernel
theorem dX1_grow_91 : decode cX1_grow 91 = .ok (.getfield 29, 3) := by decide +kernel
theorem dX1_grow_94 : decode cX1_grow 94 = .ok (.new 18, 3) := by decide +kernel
theorem dX1_grow_97 : decode cX1_grow 97 = .ok (.dup, 1) := by decide +kernel
theorem dX1_grow_98 : decode cX1_grow 98 = .ok (.invokespecial 20, 3) := by decide +kernel
theorem dX1_grow_101 : decode cX1_grow 101 = .ok (.aastore, 1) := by decide +kernel
theorem dX1_grow_102 : decode cX1_grow 102 = .ok (.aload_n 0, 1) := by decide +kernel
theorem dX1_grow_103 : decode cX1_grow 103 = .ok (.aload_n 0, 1) := by decide +kernel
theorem dX1_grow_104 : decode cX1_grow 104 = .ok (.getfield 29, 3) := by decide +kernel
theorem dX1_grow_107 : decode cX1_grow 107 = .ok (.invokevirtual 56, 3) := by decide +kernel
theorem dX1_grow_110 : decode cX1_grow 110 = .ok (.iload_n 1, 1) := by decide +kernel
theorem dX1_grow_111 : decode cX1_grow 111 = .ok (.iload_n 2, 1) := by decide +kernel
theorem dX1_grow_112 : decode cX1_grow 112 = .ok (.invokevirtual 52, 3) := by decide +kernel
theorem dX1_grow_115 : decode cX1_grow 115 = .ok (.iload_n 3, 1) := by decide +kernel
theorem dX1_grow_116 : decode cX1_grow 116 = .ok (.iconst (-1), 1) := by decide +kernel
theorem dX1_grow_117 : decode cX1_grow 117 = .ok (.if_icmp .ne 18, 3) := by decide +kernel
theorem dX1_grow_120 : decode cX1_grow 120 = .ok (.aload_n 0, 1) := by decide +kernel
theorem dX1_grow_121 : decode cX1_grow 121 = .ok (.iload_n 1, 1) := by decide +kernel
theorem dX1_grow_122 : decode cX1_grow 122 = .ok (.invokevirtual 56, 3) := by decide +kernel
theorem dX1_grow_125 : decode cX1_grow 125 = .ok (.aload_n 0, 1) := by decide +kernel
theorem dX1_grow_126 : decode cX1_grow 126 = .ok (.getfield 29, 3) := by decide +kernel
theorem dX1_grow_129 : decode cX1_grow 129 = .ok (.putfield 60, 3) := by decide +kernel
theorem dX1_grow_132 : decode cX1_grow 132 = .ok (.goto 15, 3) := by decide +kernel
theorem dX1_grow_135 : decode cX1_grow 135 = .ok (.aload_n 0, 1) := by decide +kernel
theorem dX1_grow_136 : decode cX1_grow 136 = .ok (.iload_n 3, 1) := by decide +kernel
theorem dX1_grow_137 : decode cX1_grow 137 = .ok (.invokevirtual 56, 3) := by decide +kernel
theorem dX1_grow_140 : decode cX1_grow 140 = .ok (.aload_n 0, 1) := by decide +kernel
theorem dX1_grow_141 : decode cX1_grow 141 = .ok (.getfield 29, 3) := by decide +kernel
theorem dX1_grow_144 : decode cX1_grow 144 = .ok (.putfield 66, 3) := by decide +kernel
theorem dX1_grow_147 : decode cX1_grow 147 = .ok (.aload_n 0, 1) := by decide +kernel
theorem dX1_grow_148 : decode cX1_grow 148 = .ok (.getfield 29, 3) := by decide +kernel
theorem dX1_grow_151 : decode cX1_grow 151 = .ok (.ireturn, 1) := by decide +kernel
theorem dX1_goesOn_0 : decode cX1_goesOn 0 = .ok (.aload_n 0, 1) := by decide +kernel
theorem dX1_goesOn_1 : decode cX1_goesOn 1 = .ok (.aload_n 0, 1) := by decide +kernel
theorem dX1_goesOn_2 : decode cX1_goesOn 2 = .ok (.iload_n 1, 1) := by decide +kernel
theorem dX1_goesOn_3 : decode cX1_goesOn 3 = .ok (.invokevirtual 56, 3) := by decide +kernel
theorem dX1_goesOn_6 : decode cX1_goesOn 6 = .ok (.getfield 69, 3) := by decide +kernel
theorem dX1_goesOn_9 : decode cX1_goesOn 9 = .ok (.invokevirtual 56, 3) := by decide +kernel
theorem dX1_goesOn_12 : decode cX1_goesOn 12 = .ok (.getfield 60, 3) := by decide +kernel
theorem dX1_goesOn_15 : decode cX1_goesOn 15 = .ok (.iload_n 1, 1) := by decide +kernel
theorem dX1_goesOn_16 : decode cX1_goesOn 16 = .ok (.if_icmp .ne 7, 3) := by decide +kernel
theorem dX1_goesOn_19 : decode cX1_goesOn 19 = .ok (.iconst 1, 1) := by decide +kernel
theorem dX1_goesOn_20 : decode cX1_goesOn 20 = .ok (.goto 4, 3) := by decide +kernel
theorem dX1_goesOn_23 : decode cX1_goesOn 23 = .ok (.iconst 0, 1) := by decide +kernel
theorem dX1_goesOn_24 : decode cX1_goesOn 24 = .ok (.ireturn, 1) := by decide +kernel
theorem dX1_deepOfNext_0 : decode cX1_deepOfNext 0 = .ok (.aload_n 0, 1) := by decide +kernel
theorem dX1_deepOfNext_1 : decode cX1_deepOfNext 1 = .ok (.iload_n 1, 1) := by decide +kernel
theorem dX1_deepOfNext_2 : decode cX1_deepOfNext 2 = .ok (.invokevirtual 56, 3) := by decide +kernel
theorem dX1_deepOfNext_5 : decode cX1_deepOfNext 5 = .ok (.getfield 60, 3) := by decide +kernel
theorem dX1_deepOfNext_8 : decode cX1_deepOfNext 8 = .ok (.iconst (-1), 1) := by decide +kernel
theorem dX1_deepOfNext_9 : decode cX1_deepOfNext 9 = .ok (.if_icmp .ne 7, 3) := by decide +kernel
theorem dX1_deepOfNext_12 : decode cX1_deepOfNext 12 = .ok (.iconst 0, 1) := by decide +kernel
theorem dX1_deepOfNext_13 : decode cX1_deepOfNext 13 = .ok (.goto 4, 3) := by decide +kernel
theorem dX1_deepOfNext_16 : decode cX1_deepOfNext 16 = .ok (.iconst 1, 1) := by decide +kernel
theorem dX1_deepOfNext_17 : decode cX1_deepOfNext 17 = .ok (.istore_n 2, 1) := by decide +kernel
theorem dX1_deepOfNext_18 : decode cX1_deepOfNext 18 = .ok (.iload_n 1, 1) := by decide +kernel
theorem dX1_deepOfNext_19 : decode cX1_deepOfNext 19 = .ok (.istore_n 3, 1) := by decide +kernel
theorem dX1_deepOfNext_20 : decode cX1_deepOfNext 20 = .ok (.iconst 0, 1) := by decide +kernel
theorem dX1_deepOfNext_21 : decode cX1_deepOfNext 21 = .ok (.istore 4, 2) := by decide +kernel
theorem dX1_deepOfNext_23 : decode cX1_deepOfNext 23 = .ok (.iload 4, 2) := by decide +kernel
theorem dX1_deepOfNext_25 : decode cX1_deepOfNext 25 = .ok (.sipush 300, 3) := by decide +kernel
theorem dX1_deepOfNext_28 : decode cX1_deepOfNext 28 = .ok (.if_icmp .ge 38, 3) := by decide +kernel
theorem dX1_deepOfNext_31 : decode cX1_deepOfNext 31 = .ok (.iload_n 3, 1) := by decide +kernel
theorem dX1_deepOfNext_32 : decode cX1_deepOfNext 32 = .ok (.ifCond .le 34, 3) := by decide +kernel
theorem dX1_deepOfNext_35 : decode cX1_deepOfNext 35 = .ok (.iload_n 2, 1) := by decide +kernel
theorem dX1_deepOfNext_36 : decode cX1_deepOfNext 36 = .ok (.aload_n 0, 1) := by decide +kernel
theorem dX1_deepOfNext_37 : decode cX1_deepOfNext 37 = .ok (.iload_n 3, 1) := by decide +kernel
theorem dX1_deepOfNext_38 : decode cX1_deepOfNext 38 = .ok (.invokevirtual 72, 3) := by decide +kernel
theorem dX1_deepOfNext_41 : decode cX1_deepOfNext 41 = .ok (.ifCond .eq 7, 3) := by decide +kernel
theorem dX1_deepOfNext_44 : decode cX1_deepOfNext 44 = .ok (.iconst 0, 1) := by decide +kernel
theorem dX1_deepOfNext_45 : decode cX1_deepOfNext 45 = .ok (.goto 4, 3) := by decide +kernel
theorem dX1_deepOfNext_48 : decode cX1_deepOfNext 48 = .ok (.iconst 1, 1) := by decide +kernel
theorem dX1_deepOfNext_49 : decode cX1_deepOfNext 49 = .ok (.iadd, 1) := by decide +kernel
theorem dX1_deepOfNext_50 : decode cX1_deepOfNext 50 = .ok (.istore_n 2, 1) := by decide +kernel
theorem dX1_deepOfNext_51 : decode cX1_deepOfNext 51 = .ok (.aload_n 0, 1) := by decide +kernel
theorem dX1_deepOfNext_52 : decode cX1_deepOfNext 52 = .ok (.iload_n 3, 1) := by decide +kernel
theorem dX1_deepOfNext_53 : decode cX1_deepOfNext 53 = .ok (.invokevirtual 56, 3) := by decide +kernel
theorem dX1_deepOfNext_56 : decode cX1_deepOfNext 56 = .ok (.getfield 69, 3) := by decide +kernel
theorem dX1_deepOfNext_59 : decode cX1_deepOfNext 59 = .ok (.istore_n 3, 1) := by decide +kernel
theorem dX1_deepOfNext_60 : decode cX1_deepOfNext 60 = .ok (.iinc 4 1, 3) := by decide +kernel
theorem dX1_deepOfNext_63 : decode cX1_deepOfNext 63 = .ok (.goto (-40), 3) := by decide +kernel
theorem dX1_deepOfNext_66 : decode cX1_deepOfNext 66 = .ok (.iload_n 2, 1) := by decide +kernel
theorem dX1_deepOfNext_67 : decode cX1_deepOfNext 67 = .ok (.ireturn, 1) := by decide +kernel
theorem dX1_mayLead_0 : decode cX1_mayLead 0 = .ok (.aload_n 0, 1) := by decide +kernel
theorem dX1_mayLead_1 : decode cX1_mayLead 1 = .ok (.getfield 45, 3) := by decide +kernel
theorem dX1_mayLead_4 : decode cX1_mayLead 4 = .ok (.astore_n 2, 1) := by decide +kernel
theorem dX1_mayLead_5 : decode cX1_mayLead 5 = .ok (.aload_n 2, 1) := by decide +kernel
theorem dX1_mayLead_6 : decode cX1_mayLead 6 = .ok (.iconst 0, 1) := by decide +kernel
theorem dX1_mayLead_7 : decode cX1_mayLead 7 = .ok (.iconst 0, 1) := by decide +kernel
theorem dX1_mayLead_8 : decode cX1_mayLead 8 = .ok (.iastore, 1) := by decide +kernel
theorem dX1_mayLead_9 : decode cX1_mayLead 9 = .ok (.iconst 1, 1) := by decide +kernel
theorem dX1_mayLead_10 : decode cX1_mayLead 10 = .ok (.istore_n 3, 1) := by decide +kernel
theorem dX1_mayLead_11 : decode cX1_mayLead 11 = .ok (.iload_n 3, 1) := by decide +kernel
theorem dX1_mayLead_12 : decode cX1_mayLead 12 = .ok (.aload_n 0, 1) := by decide +kernel
theorem dX1_mayLead_13 : decode cX1_mayLead 13 = .ok (.getfield 29, 3) := by decide +kernel
theorem dX1_mayLead_16 : decode cX1_mayLead 16 = .ok (.if_icmp .gt 91, 3) := by decide +kernel
theorem dX1_mayLead_19 : decode cX1_mayLead 19 = .ok (.aload_n 0, 1) := by decide +kernel
theorem dX1_mayLead_20 : decode cX1_mayLead 20 = .ok (.iload_n 3, 1) := by decide +kernel
theorem dX1_mayLead_21 : decode cX1_mayLead 21 = .ok (.invokevirtual 56, 3) := by decide +kernel
theorem dX1_mayLead_24 : decode cX1_mayLead 24 = .ok (.getfield 69, 3) := by decide +kernel
theorem dX1_mayLead_27 : decode cX1_mayLead 27 = .ok (.istore 4, 2) := by decide +kernel
theorem dX1_mayLead_29 : decode cX1_mayLead 29 = .ok (.iload 4, 2) := by decide +kernel
theorem dX1_mayLead_31 : decode cX1_mayLead 31 = .ok (.aload_n 0, 1) := by decide +kernel
theorem dX1_mayLead_32 : decode cX1_mayLead 32 = .ok (.iload_n 1, 1) := by decide +kernel
theorem dX1_mayLead_33 : decode cX1_mayLead 33 = .ok (.invokevirtual 56, 3) := by decide +kernel
theorem dX1_mayLead_36 : decode cX1_mayLead 36 = .ok (.getfield 69, 3) := by decide +kernel
theorem dX1_mayLead_39 : decode cX1_mayLead 39 = .ok (.if_icmp .ne 7, 3) := by decide +kernel
theorem dX1_mayLead_42 : decode cX1_mayLead 42 = .ok (.iload_n 1, 1) := by decide +kernel
theorem dX1_mayLead_43 : decode cX1_mayLead 43 = .ok (.goto 12, 3) := by decide +kernel
theorem dX1_mayLead_46 : decode cX1_mayLead 46 = .ok (.aload_n 0, 1) := by decide +kernel
theorem dX1_mayLead_47 : decode cX1_mayLead 47 = .ok (.iload 4, 2) := by decide +kernel
theorem dX1_mayLead_49 : decode cX1_mayLead 49 = .ok (.invokevirtual 56, 3) := by decide +kernel
theorem dX1_mayLead_52 : decode cX1_mayLead 52 = .ok (.getfield 60, 3) := by decide +kernel
theorem dX1_mayLead_55 : decode cX1_mayLead 55 = .ok (.istore 5, 2) := by decide +kernel
theorem dX1_mayLead_57 : decode cX1_mayLead 57 = .ok (.aload_n 2, 1) := by decide +kernel
theorem dX1_mayLead_58 : decode cX1_mayLead 58 = .ok (.iload_n 3, 1) := by decide +kernel
theorem dX1_mayLead_59 : decode cX1_mayLead 59 = .ok (.iload 4, 2) := by decide +kernel
theorem dX1_mayLead_61 : decode cX1_mayLead 61 = .ok (.ifCond .lt 16, 3) := by decide +kernel
theorem dX1_mayLead_64 : decode cX1_mayLead 64 = .ok (.iload 4, 2) := by decide +kernel
theorem dX1_mayLead_66 : decode cX1_mayLead 66 = .ok (.iload_n 3, 1) := by decide +kernel
theorem dX1_mayLead_67 : decode cX1_mayLead 67 = .ok (.if_icmp .ge 10, 3) := by decide +kernel
theorem dX1_mayLead_70 : decode cX1_mayLead 70 = .ok (.aload_n 2, 1) := by decide +kernel
theorem dX1_mayLead_71 : decode cX1_mayLead 71 = .ok (.iload 4, 2) := by decide +kernel
theorem dX1_mayLead_73 : decode cX1_mayLead 73 = .ok (.iaload, 1) := by decide +kernel
theorem dX1_mayLead_74 : decode cX1_mayLead 74 = .ok (.goto 4, 3) := by decide +kernel
theorem dX1_mayLead_77 : decode cX1_mayLead 77 = .ok (.iconst 0, 1) := by decide +kernel
theorem dX1_mayLead_78 : decode cX1_mayLead 78 = .ok (.iload_n 3, 1) := by decide +kernel
theorem dX1_mayLead_79 : decode cX1_mayLead 79 = .ok (.iload 5, 2) := by decide +kernel
theorem dX1_mayLead_81 : decode cX1_mayLead 81 = .ok (.if_icmp .ne 7, 3) := by decide +kernel
theorem dX1_mayLead_84 : decode cX1_mayLead 84 = .ok (.iconst 0, 1) := by decide +kernel
theorem dX1_mayLead_85 : decode cX1_mayLead 85 = .ok (.goto 4, 3) := by decide +kernel
theorem dX1_mayLead_88 : decode cX1_mayLead 88 = .ok (.iconst 1, 1) := by decide +kernel
theorem dX1_mayLead_89 : decode cX1_mayLead 89 = .ok (.iadd, 1) := by decide +kernel
theorem dX1_mayLead_90 : decode cX1_mayLead 90 = .ok (.iastore, 1) := by decide +kernel
theorem dX1_mayLead_91 : decode cX1_mayLead 91 = .ok (.aload_n 2, 1) := by decide +kernel
theorem dX1_mayLead_92 : decode cX1_mayLead 92 = .ok (.iload_n 3, 1) := by decide +kernel
theorem dX1_mayLead_93 : decode cX1_mayLead 93 = .ok (.iaload, 1) := by decide +kernel
theorem dX1_mayLead_94 : decode cX1_mayLead 94 = .ok (.bipush 6, 2) := by decide +kernel
theorem dX1_mayLead_96 : decode cX1_mayLead 96 = .ok (.if_icmp .le 5, 3) := by decide +kernel
theorem dX1_mayLead_99 : decode cX1_mayLead 99 = .ok (.iconst 0, 1) := by decide +kernel
theorem dX1_mayLead_100 : decode cX1_mayLead 100 = .ok (.ireturn, 1) := by decide +kernel
theorem dX1_mayLead_101 : decode cX1_mayLead 101 = .ok (.iinc 3 1, 3) := by decide +kernel
theorem dX1_mayLead_104 : decode cX1_mayLead 104 = .ok (.goto (-93), 3) := by decide +kernel
theorem dX1_mayLead_107 : decode cX1_mayLead 107 = .ok (.iconst 1, 1) := by decide +kernel
theorem dX1_mayLead_108 : decode cX1_mayLead 108 = .ok (.ireturn, 1) := by decide +kernel
theorem dX1_putFirst_0 : decode cX1_putFirst 0 = .ok (.aload_n 0, 1) := by decide +kernel
theorem dX1_putFirst_1 : decode cX1_putFirst 1 = .ok (.aload_n 0, 1) := by decide +kernel
theorem dX1_putFirst_2 : decode cX1_putFirst 2 = .ok (.iload_n 1, 1) := by decide +kernel
theorem dX1_putFirst_3 : decode cX1_putFirst 3 = .ok (.invokevirtual 56, 3) := by decide +kernel
theorem dX1_putFirst_6 : decode cX1_putFirst 6 = .ok (.getfield 69, 3) := by decide +kernel
theorem dX1_putFirst_9 : decode cX1_putFirst 9 = .ok (.invokevirtual 56, 3) := by decide +kernel
theorem dX1_putFirst_12 : decode cX1_putFirst 12 = .ok (.astore_n 2, 1) := by decide +kernel
theorem dX1_putFirst_13 : decode cX1_putFirst 13 = .ok (.aload_n 2, 1) := by decide +kernel
theorem dX1_putFirst_14 : decode cX1_putFirst 14 = .ok (.getfield 60, 3) := by decide +kernel
theorem dX1_putFirst_17 : decode cX1_putFirst 17 = .ok (.istore_n 3, 1) := by decide +kernel
theorem dX1_putFirst_18 : decode cX1_putFirst 18 = .ok (.iconst 0, 1) := by decide +kernel
theorem dX1_putFirst_19 : decode cX1_putFirst 19 = .ok (.istore 4, 2) := by decide +kernel
theorem dX1_putFirst_21 : decode cX1_putFirst 21 = .ok (.iload 4, 2) := by decide +kernel
theorem dX1_putFirst_23 : decode cX1_putFirst 23 = .ok (.sipush 300, 3) := by decide +kernel
theorem dX1_putFirst_26 : decode cX1_putFirst 26 = .ok (.if_icmp .ge 30, 3) := by decide +kernel
theorem dX1_putFirst_29 : decode cX1_putFirst 29 = .ok (.aload_n 0, 1) := by decide +kernel
theorem dX1_putFirst_30 : decode cX1_putFirst 30 = .ok (.iload_n 3, 1) := by decide +kernel
theorem dX1_putFirst_31 : decode cX1_putFirst 31 = .ok (.invokevirtual 56, 3) := by decide +kernel
theorem dX1_putFirst_34 : decode cX1_putFirst 34 = .ok (.getfield 66, 3) := by decide +kernel
theorem dX1_putFirst_37 : decode cX1_putFirst 37 = .ok (.iload_n 1, 1) := by decide +kernel
theorem dX1_putFirst_38 : decode cX1_putFirst 38 = .ok (.if_icmp .eq 18, 3) := by decide +kernel
theorem dX1_putFirst_41 : decode cX1_putFirst 41 = .ok (.aload_n 0, 1) := by decide +kernel
theorem dX1_putFirst_42 : decode cX1_putFirst 42 = .ok (.iload_n 3, 1) := by decide +kernel
theorem dX1_putFirst_43 : decode cX1_putFirst 43 = .ok (.invokevirtual 56, 3) := by decide +kernel
theorem dX1_putFirst_46 : decode cX1_putFirst 46 = .ok (.getfield 66, 3) := by decide +kernel
theorem dX1_putFirst_49 : decode cX1_putFirst 49 = .ok (.istore_n 3, 1) := by decide +kernel
theorem dX1_putFirst_50 : decode cX1_putFirst 50 = .ok (.iinc 4 1, 3) := by decide +kernel
theorem dX1_putFirst_53 : decode cX1_putFirst 53 = .ok (.goto (-32), 3) := by decide +kernel
theorem dX1_putFirst_56 : decode cX1_putFirst 56 = .ok (.aload_n 0, 1) := by decide +kernel
theorem dX1_putFirst_57 : decode cX1_putFirst 57 = .ok (.iload_n 3, 1) := by decide +kernel
theorem dX1_putFirst_58 : decode cX1_putFirst 58 = .ok (.invokevirtual 56, 3) := by decide +kernel
theorem dX1_putFirst_61 : decode cX1_putFirst 61 = .ok (.aload_n 0, 1) := by decide +kernel
theorem dX1_putFirst_62 : decode cX1_putFirst 62 = .ok (.iload_n 1, 1) := by decide +kernel
theorem dX1_putFirst_63 : decode cX1_putFirst 63 = .ok (.invokevirtual 56, 3) := by decide +kernel
theorem dX1_putFirst_66 : decode cX1_putFirst 66 = .ok (.getfield 66, 3) := by decide +kernel
theorem dX1_putFirst_69 : decode cX1_putFirst 69 = .ok (.putfield 66, 3) := by decide +kernel
theorem dX1_putFirst_72 : decode cX1_putFirst 72 = .ok (.aload_n 0, 1) := by decide +kernel
theorem dX1_putFirst_73 : decode cX1_putFirst 73 = .ok (.iload_n 1, 1) := by decide +kernel
theorem dX1_putFirst_74 : decode cX1_putFirst 74 = .ok (.invokevirtual 56, 3) := by decide +kernel
theorem dX1_putFirst_77 : decode cX1_putFirst 77 = .ok (.aload_n 2, 1) := by decide +kernel
theorem dX1_putFirst_78 : decode cX1_putFirst 78 = .ok (.getfield 60, 3) := by decide +kernel
theorem dX1_putFirst_81 : decode cX1_putFirst 81 = .ok (.putfield 66, 3) := by decide +kernel
theorem dX1_putFirst_84 : decode cX1_putFirst 84 = .ok (.aload_n 2, 1) := by decide +kernel
theorem dX1_putFirst_85 : decode cX1_putFirst 85 = .ok (.iload_n 1, 1) := by decide +kernel
theorem dX1_putFirst_86 : decode cX1_putFirst 86 = .ok (.putfield 60, 3) := by decide +kernel
theorem dX1_putFirst_89 : decode cX1_putFirst 89 = .ok (.return_, 1) := by decide +kernel
theorem dX1_standAt_0 : decode cX1_standAt 0 = .ok (.aload_n 0, 1) := by decide +kernel
theorem dX1_standAt_1 : decode cX1_standAt 1 = .ok (.getfield 45, 3) := by decide +kernel
theorem dX1_standAt_4 : decode cX1_standAt 4 = .ok (.astore_n 3, 1) := by decide +kernel
theorem dX1_standAt_5 : decode cX1_standAt 5 = .ok (.iconst 0, 1) := by decide +kernel
theorem dX1_standAt_6 : decode cX1_standAt 6 = .ok (.istore 4, 2) := by decide +kernel
theorem dX1_standAt_8 : decode cX1_standAt 8 = .ok (.iload_n 1, 1) := by decide +kernel
theorem dX1_standAt_9 : decode cX1_standAt 9 = .ok (.istore 5, 2) := by decide +kernel
theorem dX1_standAt_11 : decode cX1_standAt 11 = .ok (.iload 5, 2) := by decide +kernel
theorem dX1_standAt_13 : decode cX1_standAt 13 = .ok (.ifCond .le 41, 3) := by decide +kernel
theorem dX1_standAt_16 : decode cX1_standAt 16 = .ok (.iload 4, 2) := by decide +kernel
theorem dX1_standAt_18 : decode cX1_standAt 18 = .ok (.sipush 300, 3) := by decide +kernel
theorem dX1_standAt_21 : decode cX1_standAt 21 = .ok (.if_icmp .ge 33, 3) := by decide +kernel
theorem dX1_standAt_24 : decode cX1_standAt 24 = .ok (.aload_n 3, 1) := by decide +kernel
theorem dX1_standAt_25 : decode cX1_standAt 25 = .ok (.iload 4, 2) := by decide +kernel
theorem dX1_standAt_27 : decode cX1_standAt 27 = .ok (.aload_n 0, 1) := by decide +kernel
theorem dX1_standAt_28 : decode cX1_standAt 28 = .ok (.iload 5, 2) := by decide +kernel
theorem dX1_standAt_30 : decode cX1_standAt 30 = .ok (.invokevirtual 56, 3) := by decide +kernel
theorem dX1_standAt_33 : decode cX1_standAt 33 = .ok (.getfield 63, 3) := by decide +kernel
theorem dX1_standAt_36 : decode cX1_standAt 36 = .ok (.iastore, 1) := by decide +kernel
theorem dX1_standAt_37 : decode cX1_standAt 37 = .ok (.iinc 4 1, 3) := by decide +kernel
theorem dX1_standAt_40 : decode cX1_standAt 40 = .ok (.aload_n 0, 1) := by decide +kernel
theorem dX1_standAt_41 : decode cX1_standAt 41 = .ok (.iload 5, 2) := by decide +kernel
theorem dX1_standAt_43 : decode cX1_standAt 43 = .ok (.invokevirtual 56, 3) := by decide +kernel
theorem dX1_standAt_46 : decode cX1_standAt 46 = .ok (.getfield 69, 3) := by decide +kernel
theorem dX1_standAt_49 : decode cX1_standAt 49 = .ok (.istore 5, 2) := by decide +kernel
theorem dX1_standAt_51 : decode cX1_standAt 51 = .ok (.goto (-40), 3) := by decide +kernel
theorem dX1_standAt_54 : decode cX1_standAt 54 = .ok (.aload_n 2, 1) := by decide +kernel
theorem dX1_standAt_55 : decode cX1_standAt 55 = .ok (.aload_n 0, 1) := by decide +kernel
theorem dX1_standAt_56 : decode cX1_standAt 56 = .ok (.getfield 12, 3) := by decide +kernel
theorem dX1_standAt_59 : decode cX1_standAt 59 = .ok (.invokevirtual 76, 3) := by decide +kernel
theorem dX1_standAt_62 : decode cX1_standAt 62 = .ok (.iload 4, 2) := by decide +kernel
theorem dX1_standAt_64 : decode cX1_standAt 64 = .ok (.iconst 1, 1) := by decide +kernel
theorem dX1_standAt_65 : decode cX1_standAt 65 = .ok (.isub, 1) := by decide +kernel
theorem dX1_standAt_66 : decode cX1_standAt 66 = .ok (.istore 5, 2) := by decide +kernel
theorem dX1_standAt_68 : decode cX1_standAt 68 = .ok (.iload 5, 2) := by decide +kernel
theorem dX1_standAt_70 : decode cX1_standAt 70 = .ok (.ifCond .lt 17, 3) := by decide +kernel
theorem dX1_standAt_73 : decode cX1_standAt 73 = .ok (.aload_n 2, 1) := by decide +kernel
theorem dX1_standAt_74 : decode cX1_standAt 74 = .ok (.aload_n 3, 1) := by decide +kernel
theorem dX1_standAt_75 : decode cX1_standAt 75 = .ok (.iload 5, 2) := by decide +kernel
theorem dX1_standAt_77 : decode cX1_standAt 77 = .ok (.iaload, 1) := by decide +kernel
theorem dX1_standAt_78 : decode cX1_standAt 78 = .ok (.invokevirtual 80, 3) := by decide +kernel
theorem dX1_standAt_81 : decode cX1_standAt 81 = .ok (.iinc 5 (-1), 3) := by decide +kernel
theorem dX1_standAt_84 : decode cX1_standAt 84 = .ok (.goto (-16), 3) := by decide +kernel
theorem dX1_standAt_87 : decode cX1_standAt 87 = .ok (.return_, 1) := by decide +kernel
theorem dX1_tagAt_0 : decode cX1_tagAt 0 = .ok (.iload_n 1, 1) := by decide +kernel
theorem dX1_tagAt_1 : decode cX1_tagAt 1 = .ok (.ifCond .lt 20, 3) := by decide +kernel
theorem dX1_tagAt_4 : decode cX1_tagAt 4 = .ok (.iload_n 1, 1) := by decide +kernel
theorem dX1_tagAt_5 : decode cX1_tagAt 5 = .ok (.aload_n 0, 1) := by decide +kernel
theorem dX1_tagAt_6 : decode cX1_tagAt 6 = .ok (.getfield 39, 3) := by decide +kernel
theorem dX1_tagAt_9 : decode cX1_tagAt 9 = .ok (.if_icmp .ge 12, 3) := by decide +kernel
theorem dX1_tagAt_12 : decode cX1_tagAt 12 = .ok (.aload_n 0, 1) := by decide +kernel
theorem dX1_tagAt_13 : decode cX1_tagAt 13 = .ok (.getfield 35, 3) := by decide +kernel
theorem dX1_tagAt_16 : decode cX1_tagAt 16 = .ok (.iload_n 1, 1) := by decide +kernel
theorem dX1_tagAt_17 : decode cX1_tagAt 17 = .ok (.aaload, 1) := by decide +kernel
theorem dX1_tagAt_18 : decode cX1_tagAt 18 = .ok (.goto 4, 3) := by decide +kernel
theorem dX1_tagAt_21 : decode cX1_tagAt 21 = .ok (.aconst_null, 1) := by decide +kernel
theorem dX1_tagAt_22 : decode cX1_tagAt 22 = .ok (.astore_n 2, 1) := by decide +kernel
theorem dX1_tagAt_23 : decode cX1_tagAt 23 = .ok (.aload_n 2, 1) := by decide +kernel
theorem dX1_tagAt_24 : decode cX1_tagAt 24 = .ok (.ifnull 7, 3) := by decide +kernel
theorem dX1_tagAt_27 : decode cX1_tagAt 27 = .ok (.aload_n 2, 1) := by decide +kernel
theorem dX1_tagAt_28 : decode cX1_tagAt 28 = .ok (.goto 10, 3) := by decide +kernel
theorem dX1_tagAt_31 : decode cX1_tagAt 31 = .ok (.new 33, 3) := by decide +kernel
theorem dX1_tagAt_34 : decode cX1_tagAt 34 = .ok (.dup, 1) := by decide +kernel
theorem dX1_tagAt_35 : decode cX1_tagAt 35 = .ok (.invokespecial 84, 3) := by decide +kernel
theorem dX1_tagAt_38 : decode cX1_tagAt 38 = .ok (.areturn, 1) := by decide +kernel
theorem dX1_hasTag_0 : decode cX1_hasTag 0 = .ok (.iconst 0, 1) := by decide +kernel
theorem dX1_hasTag_1 : decode cX1_hasTag 1 = .ok (.istore_n 2, 1) := by decide +kernel
theorem dX1_hasTag_2 : decode cX1_hasTag 2 = .ok (.iload_n 2, 1) := by decide +kernel
theorem dX1_hasTag_3 : decode cX1_hasTag 3 = .ok (.aload_n 0, 1) := by decide +kernel
theorem dX1_hasTag_4 : decode cX1_hasTag 4 = .ok (.getfield 39, 3) := by decide +kernel
theorem dX1_hasTag_7 : decode cX1_hasTag 7 = .ok (.if_icmp .ge 26, 3) := by decide +kernel
theorem dX1_hasTag_10 : decode cX1_hasTag 10 = .ok (.aload_n 0, 1) := by decide +kernel
theorem dX1_hasTag_11 : decode cX1_hasTag 11 = .ok (.iload_n 2, 1) := by decide +kernel
theorem dX1_hasTag_12 : decode cX1_hasTag 12 = .ok (.invokevirtual 85, 3) := by decide +kernel
theorem dX1_hasTag_15 : decode cX1_hasTag 15 = .ok (.getfield 89, 3) := by decide +kernel
theorem dX1_hasTag_18 : decode cX1_hasTag 18 = .ok (.aload_n 1, 1) := by decide +kernel
theorem dX1_hasTag_19 : decode cX1_hasTag 19 = .ok (.invokevirtual 93, 3) := by decide +kernel
theorem dX1_hasTag_22 : decode cX1_hasTag 22 = .ok (.ifCond .eq 5, 3) := by decide +kernel
theorem dX1_hasTag_25 : decode cX1_hasTag 25 = .ok (.iconst 1, 1) := by decide +kernel
theorem dX1_hasTag_26 : decode cX1_hasTag 26 = .ok (.ireturn, 1) := by decide +kernel
theorem dX1_hasTag_27 : decode cX1_hasTag 27 = .ok (.iinc 2 1, 3) := by decide +kernel
theorem dX1_hasTag_30 : decode cX1_hasTag 30 = .ok (.goto (-28), 3) := by decide +kernel
theorem dX1_hasTag_33 : decode cX1_hasTag 33 = .ok (.iconst 0, 1) := by decide +kernel
theorem dX1_hasTag_34 : decode cX1_hasTag 34 = .ok (.ireturn, 1) := by decide +kernel
theorem dX1_putTag_0 : decode cX1_putTag 0 = .ok (.aload_n 0, 1) := by decide +kernel
theorem dX1_putTag_1 : decode cX1_putTag 1 = .ok (.getfield 39, 3) := by decide +kernel
theorem dX1_putTag_4 : decode cX1_putTag 4 = .ok (.bipush 8, 2) := by decide +kernel
theorem dX1_putTag_6 : decode cX1_putTag 6 = .ok (.if_icmp .lt 4, 3) := by decide +kernel
theorem dX1_putTag_9 : decode cX1_putTag 9 = .ok (.return_, 1) := by decide +kernel
theorem dX1_putTag_10 : decode cX1_putTag 10 = .ok (.aload_n 0, 1) := by decide +kernel
theorem dX1_putTag_11 : decode cX1_putTag 11 = .ok (.getfield 35, 3) := by decide +kernel
theorem dX1_putTag_14 : decode cX1_putTag 14 = .ok (.aload_n 0, 1) := by decide +kernel
theorem dX1_putTag_15 : decode cX1_putTag 15 = .ok (.getfield 39, 3) := by decide +kernel
theorem dX1_putTag_18 : decode cX1_putTag 18 = .ok (.aaload, 1) := by decide +kernel
theorem dX1_putTag_19 : decode cX1_putTag 19 = .ok (.ifnonnull 19, 3) := by decide +kernel
theorem dX1_putTag_22 : decode cX1_putTag 22 = .ok (.aload_n 0, 1) := by decide +kernel
theorem dX1_putTag_23 : decode cX1_putTag 23 = .ok (.getfield 35, 3) := by decide +kernel
theorem dX1_putTag_26 : decode cX1_putTag 26 = .ok (.aload_n 0, 1) := by decide +kernel
theorem dX1_putTag_27 : decode cX1_putTag 27 = .ok (.getfield 39, 3) := by decide +kernel
theorem dX1_putTag_30 : decode cX1_putTag 30 = .ok (.new 33, 3) := by decide +kernel
theorem dX1_putTag_33 : decode cX1_putTag 33 = .ok (.dup, 1) := by decide +kernel
theorem dX1_putTag_34 : decode cX1_putTag 34 = .ok (.invokespecial 84, 3) := by decide +kernel
theorem dX1_putTag_37 : decode cX1_putTag 37 = .ok (.aastore, 1) := by decide +kernel
theorem dX1_putTag_38 : decode cX1_putTag 38 = .ok (.aload_n 0, 1) := by decide +kernel
theorem dX1_putTag_39 : decode cX1_putTag 39 = .ok (.dup, 1) := by decide +kernel
theorem dX1_putTag_40 : decode cX1_putTag 40 = .ok (.getfield 39, 3) := by decide +kernel
theorem dX1_putTag_43 : decode cX1_putTag 43 = .ok (.iconst 1, 1) := by decide +kernel
theorem dX1_putTag_44 : decode cX1_putTag 44 = .ok (.iadd, 1) := by decide +kernel
theorem dX1_putTag_45 : decode cX1_putTag 45 = .ok (.putfield 39, 3) := by decide +kernel
theorem dX1_putTag_48 : decode cX1_putTag 48 = .ok (.aload_n 0, 1) := by decide +kernel
theorem dX1_putTag_49 : decode cX1_putTag 49 = .ok (.aload_n 0, 1) := by decide +kernel
theorem dX1_putTag_50 : decode cX1_putTag 50 = .ok (.getfield 39, 3) := by decide +kernel
theorem dX1_putTag_53 : decode cX1_putTag 53 = .ok (.iconst 1, 1) := by decide +kernel
theorem dX1_putTag_54 : decode cX1_putTag 54 = .ok (.isub, 1) := by decide +kernel
theorem dX1_putTag_55 : decode cX1_putTag 55 = .ok (.invokevirtual 85, 3) := by decide +kernel
theorem dX1_putTag_58 : decode cX1_putTag 58 = .ok (.getfield 89, 3) := by decide +kernel
theorem dX1_putTag_61 : decode cX1_putTag 61 = .ok (.aload_n 1, 1) := by decide +kernel
theorem dX1_putTag_62 : decode cX1_putTag 62 = .ok (.invokevirtual 99, 3) := by decide +kernel
theorem dX1_putTag_65 : decode cX1_putTag 65 = .ok (.aload_n 0, 1) := by decide +kernel
theorem dX1_putTag_66 : decode cX1_putTag 66 = .ok (.aload_n 0, 1) := by decide +kernel
theorem dX1_putTag_67 : decode cX1_putTag 67 = .ok (.getfield 39, 3) := by decide +kernel
theorem dX1_putTag_70 : decode cX1_putTag 70 = .ok (.iconst 1, 1) := by decide +kernel
theorem dX1_putTag_71 : decode cX1_putTag 71 = .ok (.isub, 1) := by decide +kernel
theorem dX1_putTag_72 : decode cX1_putTag 72 = .ok (.invokevirtual 85, 3) := by decide +kernel
theorem dX1_putTag_75 : decode cX1_putTag 75 = .ok (.getfield 102, 3) := by decide +kernel
theorem dX1_putTag_78 : decode cX1_putTag 78 = .ok (.aload_n 2, 1) := by decide +kernel
theorem dX1_putTag_79 : decode cX1_putTag 79 = .ok (.invokevirtual 99, 3) := by decide +kernel
theorem dX1_putTag_82 : decode cX1_putTag 82 = .ok (.return_, 1) := by decide +kernel
theorem dX1_agreesWith_0 : decode cX1_agreesWith 0 = .ok (.iconst 0, 1) := by decide +kernel
theorem dX1_agreesWith_1 : decode cX1_agreesWith 1 = .ok (.istore_n 2, 1) := by decide +kernel
theorem dX1_agreesWith_2 : decode cX1_agreesWith 2 = .ok (.iload_n 2, 1) := by decide +kernel
theorem dX1_agreesWith_3 : decode cX1_agreesWith 3 = .ok (.aload_n 0, 1) := by decide +kernel
theorem dX1_agreesWith_4 : decode cX1_agreesWith 4 = .ok (.getfield 39, 3) := by decide +kernel
theorem dX1_agreesWith_7 : decode cX1_agreesWith 7 = .ok (.if_icmp .ge 45, 3) := by decide +kernel
theorem dX1_agreesWith_10 : decode cX1_agreesWith 10 = .ok (.aload_n 0, 1) := by decide +kernel
theorem dX1_agreesWith_11 : decode cX1_agreesWith 11 = .ok (.iload_n 2, 1) := by decide +kernel
theorem dX1_agreesWith_12 : decode cX1_agreesWith 12 = .ok (.invokevirtual 85, 3) := by decide +kernel
theorem dX1_agreesWith_15 : decode cX1_agreesWith 15 = .ok (.getfield 89, 3) := by decide +kernel
theorem dX1_agreesWith_18 : decode cX1_agreesWith 18 = .ok (.ldc 105, 2) := by decide +kernel
theorem dX1_agreesWith_20 : decode cX1_agreesWith 20 = .ok (.invokevirtual 107, 3) := by decide +kernel
theorem dX1_agreesWith_23 : decode cX1_agreesWith 23 = .ok (.ifCond .eq 23, 3) := by decide +kernel
theorem dX1_agreesWith_26 : decode cX1_agreesWith 26 = .ok (.aload_n 0, 1) := by decide +kernel
theorem dX1_agreesWith_27 : decode cX1_agreesWith 27 = .ok (.iload_n 2, 1) := by decide +kernel
theorem dX1_agreesWith_28 : decode cX1_agreesWith 28 = .ok (.invokevirtual 85, 3) := by decide +kernel
theorem dX1_agreesWith_31 : decode cX1_agreesWith 31 = .ok (.getfield 102, 3) := by decide +kernel
theorem dX1_agreesWith_34 : decode cX1_agreesWith 34 = .ok (.iload_n 1, 1) := by decide +kernel
theorem dX1_agreesWith_35 : decode cX1_agreesWith 35 = .ok (.invokestatic 111, 3) := by decide +kernel
theorem dX1_agreesWith_38 : decode cX1_agreesWith 38 = .ok (.invokevirtual 107, 3) := by decide +kernel
theorem dX1_agreesWith_41 : decode cX1_agreesWith 41 = .ok (.ifCond .ne 5, 3) := by decide +kernel
theorem dX1_agreesWith_44 : decode cX1_agreesWith 44 = .ok (.iconst 0, 1) := by decide +kernel
theorem dX1_agreesWith_45 : decode cX1_agreesWith 45 = .ok (.ireturn, 1) := by decide +kernel
theorem dX1_agreesWith_46 : decode cX1_agreesWith 46 = .ok (.iinc 2 1, 3) := by decide +kernel
theorem dX1_agreesWith_49 : decode cX1_agreesWith 49 = .ok (.goto (-47), 3) := by decide +kernel
theorem dX1_agreesWith_52 : decode cX1_agreesWith 52 = .ok (.iconst 1, 1) := by decide +kernel
theorem dX1_agreesWith_53 : decode cX1_agreesWith 53 = .ok (.ireturn, 1) := by decide +kernel
theorem dX2_init_0 : decode cX2_init 0 = .ok (.aload_n 0, 1) := by decide +kernel
theorem dX2_init_1 : decode cX2_init 1 = .ok (.invokespecial 3, 3) := by decide +kernel
theorem dX2_init_4 : decode cX2_init 4 = .ok (.aload_n 0, 1) := by decide +kernel
theorem dX2_init_5 : decode cX2_init 5 = .ok (.new 9, 3) := by decide +kernel
theorem dX2_init_8 : decode cX2_init 8 = .ok (.dup, 1) := by decide +kernel
theorem dX2_init_9 : decode cX2_init 9 = .ok (.invokespecial 11, 3) := by decide +kernel
theorem dX2_init_12 : decode cX2_init 12 = .ok (.putfield 12, 3) := by decide +kernel
theorem dX2_init_15 : decode cX2_init 15 = .ok (.aload_n 0, 1) := by decide +kernel
theorem dX2_init_16 : decode cX2_init 16 = .ok (.new 18, 3) := by decide +kernel
theorem dX2_init_19 : decode cX2_init 19 = .ok (.dup, 1) := by decide +kernel
theorem dX2_init_20 : decode cX2_init 20 = .ok (.invokespecial 20, 3) := by decide +kernel
theorem dX2_init_23 : decode cX2_init 23 = .ok (.putfield 21, 3) := by decide +kernel
theorem dX2_init_26 : decode cX2_init 26 = .ok (.aload_n 0, 1) := by decide +kernel
theorem dX2_init_27 : decode cX2_init 27 = .ok (.new 25, 3) := by decide +kernel
theorem dX2_init_30 : decode cX2_init 30 = .ok (.dup, 1) := by decide +kernel
theorem dX2_init_31 : decode cX2_init 31 = .ok (.invokespecial 27, 3) := by decide +kernel
theorem dX2_init_34 : decode cX2_init 34 = .ok (.putfield 28, 3) := by decide +kernel
theorem dX2_init_37 : decode cX2_init 37 = .ok (.aload_n 0, 1) := by decide +kernel
theorem dX2_init_38 : decode cX2_init 38 = .ok (.new 32, 3) := by decide +kernel
theorem dX2_init_41 : decode cX2_init 41 = .ok (.dup, 1) := by decide +kernel
theorem dX2_init_42 : decode cX2_init 42 = .ok (.invokespecial 34, 3) := by decide +kernel
theorem dX2_init_45 : decode cX2_init 45 = .ok (.putfield 35, 3) := by decide +kernel
theorem dX2_init_48 : decode cX2_init 48 = .ok (.aload_n 0, 1) := by decide +kernel
theorem dX2_init_49 : decode cX2_init 49 = .ok (.iconst 0, 1) := by decide +kernel
theorem dX2_init_50 : decode cX2_init 50 = .ok (.putfield 39, 3) := by decide +kernel
theorem dX2_init_53 : decode cX2_init 53 = .ok (.aload_n 0, 1) := by decide +kernel
theorem dX2_init_54 : decode cX2_init 54 = .ok (.iconst 0, 1) := by decide +kernel
theorem dX2_init_55 : decode cX2_init 55 = .ok (.putfield 43, 3) := by decide +kernel
theorem dX2_init_58 : decode cX2_init 58 = .ok (.aload_n 0, 1) := by decide +kernel
theorem dX2_init_59 : decode cX2_init 59 = .ok (.new 25, 3) := by decide +kernel
theorem dX2_init_62 : decode cX2_init 62 = .ok (.dup, 1) := by decide +kernel
theorem dX2_init_63 : decode cX2_init 63 = .ok (.invokespecial 27, 3) := by decide +kernel
theorem dX2_init_66 : decode cX2_init 66 = .ok (.putfield 46, 3) := by decide +kernel
theorem dX2_init_69 : decode cX2_init 69 = .ok (.aload_n 0, 1) := by decide +kernel
theorem dX2_init_70 : decode cX2_init 70 = .ok (.new 25, 3) := by decide +kernel
theorem dX2_init_73 : decode cX2_init 73 = .ok (.dup, 1) := by decide +kernel
theorem dX2_init_74 : decode cX2_init 74 = .ok (.invokespecial 27, 3) := by decide +kernel
theorem dX2_init_77 : decode cX2_init 77 = .ok (.putfield 49, 3) := by decide +kernel
theorem dX2_init_80 : decode cX2_init 80 = .ok (.aload_n 0, 1) := by decide +kernel
theorem dX2_init_81 : decode cX2_init 81 = .ok (.bipush 7, 2) := by decide +kernel
theorem dX2_init_83 : decode cX2_init 83 = .ok (.newarray .int, 2) := by decide +kernel
theorem dX2_init_85 : decode cX2_init 85 = .ok (.putfield 52, 3) := by decide +kernel
theorem dX2_init_88 : decode cX2_init 88 = .ok (.aload_n 0, 1) := by decide +kernel
theorem dX2_init_89 : decode cX2_init 89 = .ok (.bipush 7, 2) := by decide +kernel
theorem dX2_init_91 : decode cX2_init 91 = .ok (.newarray .int, 2) := by decide +kernel
theorem dX2_init_93 : decode cX2_init 93 = .ok (.putfield 56, 3) := by decide +kernel
theorem dX2_init_96 : decode cX2_init 96 = .ok (.aload_n 0, 1) := by decide +kernel
theorem dX2_init_97 : decode cX2_init 97 = .ok (.bipush 7, 2) := by decide +kernel
theorem dX2_init_99 : decode cX2_init 99 = .ok (.anewarray 59, 3) := by decide +kernel
theorem dX2_init_102 : decode cX2_init 102 = .ok (.putfield 61, 3) := by decide +kernel
theorem dX2_init_105 : decode cX2_init 105 = .ok (.aload_n 0, 1) := by decide +kernel
theorem dX2_init_106 : decode cX2_init 106 = .ok (.bipush 7, 2) := by decide +kernel
theorem dX2_init_108 : decode cX2_init 108 = .ok (.anewarray 59, 3) := by decide +kernel
theorem dX2_init_111 : decode cX2_init 111 = .ok (.putfield 65, 3) := by decide +kernel
theorem dX2_init_114 : decode cX2_init 114 = .ok (.iconst 0, 1) := by decide +kernel
theorem dX2_init_115 : decode cX2_init 115 = .ok (.istore_n 1, 1) := by decide +kernel
theorem dX2_init_116 : decode cX2_init 116 = .ok (.iload_n 1, 1) := by decide +kernel
theorem dX2_init_117 : decode cX2_init 117 = .ok (.bipush 6, 2) := by decide +kernel
theorem dX2_init_119 : decode cX2_init 119 = .ok (.if_icmp .gt 35, 3) := by decide +kernel
theorem dX2_init_122 : decode cX2_init 122 = .ok (.aload_n 0, 1) := by decide +kernel
theorem dX2_init_123 : decode cX2_init 123 = .ok (.getfield 61, 3) := by decide +kernel
theorem dX2_init_126 : decode cX2_init 126 = .ok (.iload_n 1, 1) := by decide +kernel
theorem dX2_init_127 : decode cX2_init 127 = .ok (.new 59, 3) := by decide +kernel
theorem dX2_init_130 : decode cX2_init 130 = .ok (.dup, 1) := by decide +kernel
theorem dX2_init_131 : decode cX2_init 131 = .ok (.invokespecial 68, 3) := by decide +kernel
theorem dX2_init_134 : decode cX2_init 134 = .ok (.aastore, 1) := by decide +kernel
theorem dX2_init_135 : decode cX2_init 135 = .ok (.aload_n 0, 1) := by decide +kernel
theorem dX2_init_136 : decode cX2_init 136 = .ok (.getfield 65, 3) := by decide +kernel
theorem dX2_init_139 : decode cX2_init 139 = .ok (.iload_n 1, 1) := by decide +kernel
theorem dX2_init_140 : decode cX2_init 140 = .ok (.new 59, 3) := by decide +kernel
theorem dX2_init_143 : decode cX2_init 143 = .ok (.dup, 1) := by decide +kernel
theorem dX2_init_144 : decode cX2_init 144 = .ok (.invokespecial 68, 3) := by decide +kernel
theorem dX2_init_147 : decode cX2_init 147 = .ok (.aastore, 1) := by decide +kernel
theorem dX2_init_148 : decode cX2_init 148 = .ok (.iinc 1 1, 3) := by decide +kernel
theorem dX2_init_151 : decode cX2_init 151 = .ok (.goto (-35), 3) := by decide +kernel
theorem dX2_init_154 : decode cX2_init 154 = .ok (.return_, 1) := by decide +kernel
theorem dX2_begin_0 : decode cX2_begin 0 = .ok (.aload_n 0, 1) := by decide +kernel
theorem dX2_begin_1 : decode cX2_begin 1 = .ok (.aload_n 1, 1) := by decide +kernel
theorem dX2_begin_2 : decode cX2_begin 2 = .ok (.putfield 28, 3) := by decide +kernel
theorem dX2_begin_5 : decode cX2_begin 5 = .ok (.aload_n 0, 1) := by decide +kernel
theorem dX2_begin_6 : decode cX2_begin 6 = .ok (.getfield 35, 3) := by decide +kernel
theorem dX2_begin_9 : decode cX2_begin 9 = .ok (.invokevirtual 69, 3) := by decide +kernel
theorem dX2_begin_12 : decode cX2_begin 12 = .ok (.aload_n 0, 1) := by decide +kernel
theorem dX2_begin_13 : decode cX2_begin 13 = .ok (.iconst 0, 1) := by decide +kernel
theorem dX2_begin_14 : decode cX2_begin 14 = .ok (.putfield 39, 3) := by decide +kernel
theorem dX2_begin_17 : decode cX2_begin 17 = .ok (.aload_n 0, 1) := by decide +kernel
theorem dX2_begin_18 : decode cX2_begin 18 = .ok (.iconst 0, 1) := by decide +kernel
theorem dX2_begin_19 : decode cX2_begin 19 = .ok (.putfield 43, 3) := by decide +kernel
theorem dX2_begin_22 : decode cX2_begin 22 = .ok (.return_, 1) := by decide +kernel
theorem dX2_fault_0 : decode cX2_fault 0 = .ok (.aload_n 0, 1) := by decide +kernel
theorem dX2_fault_1 : decode cX2_fault 1 = .ok (.getfield 43, 3) := by decide +kernel
theorem dX2_fault_4 : decode cX2_fault 4 = .ok (.ireturn, 1) := by decide +kernel
theorem dX2_exchange_0 : decode cX2_exchange 0 = .ok (.aload_n 0, 1) := by decide +kernel
theorem dX2_exchange_1 : decode cX2_exchange 1 = .ok (.getfield 35, 3) := by decide +kernel
theorem dX2_exchange_4 : decode cX2_exchange 4 = .ok (.astore_n 2, 1) := by decide +kernel
theorem dX2_exchange_5 : decode cX2_exchange 5 = .ok (.aload_n 0, 1) := by decide +kernel
theorem dX2_exchange_6 : decode cX2_exchange 6 = .ok (.aload_n 1, 1) := by decide +kernel
theorem dX2_exchange_7 : decode cX2_exchange 7 = .ok (.putfield 35, 3) := by decide +kernel
theorem dX2_exchange_10 : decode cX2_exchange 10 = .ok (.aload_n 2, 1) := by decide +kernel
theorem dX2_exchange_11 : decode cX2_exchange 11 = .ok (.areturn, 1) := by decide +kernel
theorem dX2_refuse_0 : decode cX2_refuse 0 = .ok (.aload_n 0, 1) := by decide +kernel
theorem dX2_refuse_1 : decode cX2_refuse 1 = .ok (.sipush 10000, 3) := by decide +kernel
theorem dX2_refuse_4 : decode cX2_refuse 4 = .ok (.iload_n 1, 1) := by decide +kernel
theorem dX2_refuse_5 : decode cX2_refuse 5 = .ok (.imul, 1) := by decide +kernel
theorem dX2_refuse_6 : decode cX2_refuse 6 = .ok (.iload_n 2, 1) := by decide +kernel
theorem dX2_refuse_7 : decode cX2_refuse 7 = .ok (.iadd, 1) := by decide +kernel
theorem dX2_refuse_8 : decode cX2_refuse 8 = .ok (.putfield 43, 3) := by decide +kernel
theorem dX2_refuse_11 : decode cX2_refuse 11 = .ok (.iconst 0, 1) := by decide +kernel
theorem dX2_refuse_12 : decode cX2_refuse 12 = .ok (.ireturn, 1) := by decide +kernel
theorem dX2_skipBlanks_0 : decode cX2_skipBlanks 0 = .ok (.aload_n 0, 1) := by decide +kernel
theorem dX2_skipBlanks_1 : decode cX2_skipBlanks 1 = .ok (.getfield 39, 3) := by decide +kernel
theorem dX2_skipBlanks_4 : decode cX2_skipBlanks 4 = .ok (.aload_n 0, 1) := by decide +kernel
theorem dX2_skipBlanks_5 : decode cX2_skipBlanks 5 = .ok (.getfield 28, 3) := by decide +kernel
theorem dX2_skipBlanks_8 : decode cX2_skipBlanks 8 = .ok (.invokevirtual 72, 3) := by decide +kernel
theorem dX2_skipBlanks_11 : decode cX2_skipBlanks 11 = .ok (.if_icmp .ge 48, 3) := by decide +kernel
theorem dX2_skipBlanks_14 : decode cX2_skipBlanks 14 = .ok (.aload_n 0, 1) := by decide +kernel
theorem dX2_skipBlanks_15 : decode cX2_skipBlanks 15 = .ok (.getfield 28, 3) := by decide +kernel
theorem dX2_skipBlanks_18 : decode cX2_skipBlanks 18 = .ok (.aload_n 0, 1) := by decide +kernel
theorem dX2_skipBlanks_19 : decode cX2_skipBlanks 19 = .ok (.getfield 39, 3) := by decide +kernel
theorem dX2_skipBlanks_22 : decode cX2_skipBlanks 22 = .ok (.invokevirtual 76, 3) := by decide +kernel
theorem dX2_skipBlanks_25 : decode cX2_skipBlanks 25 = .ok (.bipush 32, 2) := by decide +kernel
theorem dX2_skipBlanks_27 : decode cX2_skipBlanks 27 = .ok (.if_icmp .eq 19, 3) := by decide +kernel
theorem dX2_skipBlanks_30 : decode cX2_skipBlanks 30 = .ok (.aload_n 0, 1) := by decide +kernel
theorem dX2_skipBlanks_31 : decode cX2_skipBlanks 31 = .ok (.getfield 28, 3) := by decide +kernel
theorem dX2_skipBlanks_34 : decode cX2_skipBlanks 34 = .ok (.aload_n 0, 1) := by decide +kernel
theorem dX2_skipBlanks_35 : decode cX2_skipBlanks 35 = .ok (.getfield 39, 3) := by decide +kernel
theorem dX2_skipBlanks_38 : decode cX2_skipBlanks 38 = .ok (.invokevirtual 76, 3) := by decide +kernel
theorem dX2_skipBlanks_41 : decode cX2_skipBlanks 41 = .ok (.bipush 10, 2) := by decide +kernel
theorem dX2_skipBlanks_43 : decode cX2_skipBlanks 43 = .ok (.if_icmp .ne 16, 3) := by decide +kernel
theorem dX2_skipBlanks_46 : decode cX2_skipBlanks 46 = .ok (.aload_n 0, 1) := by decide +kernel
theorem dX2_skipBlanks_47 : decode cX2_skipBlanks 47 = .ok (.dup, 1) := by decide +kernel
theorem dX2_skipBlanks_48 : decode cX2_skipBlanks 48 = .ok (.getfield 39, 3) := by decide +kernel
theorem dX2_skipBlanks_51 : decode cX2_skipBlanks 51 = .ok (.iconst 1, 1) := by decide +kernel
theorem dX2_skipBlanks_52 : decode cX2_skipBlanks 52 = .ok (.iadd, 1) := by decide +kernel
theorem dX2_skipBlanks_53 : decode cX2_skipBlanks 53 = .ok (.putfield 39, 3) := by decide +kernel
theorem dX2_skipBlanks_56 : decode cX2_skipBlanks 56 = .ok (.goto (-56), 3) := by decide +kernel
theorem dX2_skipBlanks_59 : decode cX2_skipBlanks 59 = .ok (.return_, 1) := by decide +kernel
theorem dX2_readHead_0 : decode cX2_readHead 0 = .ok (.iconst 1, 1) := by decide +kernel
theorem dX2_readHead_1 : decode cX2_readHead 1 = .ok (.istore_n 1, 1) := by decide +kernel
theorem dX2_readHead_2 : decode cX2_readHead 2 = .ok (.aload_n 0, 1) := by decide +kernel
theorem dX2_readHead_3 : decode cX2_readHead 3 = .ok (.invokevirtual 79, 3) := by decide +kernel
theorem dX2_readHead_6 : decode cX2_readHead 6 = .ok (.iconst 0, 1) := by decide +kernel
theorem dX2_readHead_7 : decode cX2_readHead 7 = .ok (.istore_n 2, 1) := by decide +kernel
theorem dX2_readHead_8 : decode cX2_readHead 8 = .ok (.iload_n 2, 1) := by decide +kernel
theorem dX2_readHead_9 : decode cX2_readHead 9 = .ok (.sipush 2000, 3) := by decide +kernel
theorem dX2_readHead_12 : decode cX2_readHead 12 = .ok (.if_icmp .ge 38, 3) := by decide +kernel
theorem dX2_readHead_15 : decode cX2_readHead 15 = .ok (.iload_n 1, 1) := by decide +kernel
theorem dX2_readHead_16 : decode cX2_readHead 16 = .ok (.ifCond .eq 34, 3) := by decide +kernel
theorem dX2_readHead_19 : decode cX2_readHead 19 = .ok (.aload_n 0, 1) := by decide +kernel
theorem dX2_readHead_20 : decode cX2_readHead 20 = .ok (.getfield 28, 3) := by decide +kernel
theorem dX2_readHead_23 : decode cX2_readHead 23 = .ok (.aload_n 0, 1) := by decide +kernel
theorem dX2_readHead_24 : decode cX2_readHead 24 = .ok (.getfield 39, 3) := by decide +kernel
theorem dX2_readHead_27 : decode cX2_readHead 27 = .ok (.invokevirtual 76, 3) := by decide +kernel
theorem dX2_readHead_30 : decode cX2_readHead 30 = .ok (.bipush 91, 2) := by decide +kernel
theorem dX2_readHead_32 : decode cX2_readHead 32 = .ok (.if_icmp .ne 18, 3) := by decide +kernel
theorem dX2_readHead_35 : decode cX2_readHead 35 = .ok (.aload_n 0, 1) := by decide +kernel
theorem dX2_readHead_36 : decode cX2_readHead 36 = .ok (.invokevirtual 82, 3) := by decide +kernel
theorem dX2_readHead_39 : decode cX2_readHead 39 = .ok (.istore_n 1, 1) := by decide +kernel
theorem dX2_readHead_40 : decode cX2_readHead 40 = .ok (.aload_n 0, 1) := by decide +kernel
theorem dX2_readHead_41 : decode cX2_readHead 41 = .ok (.invokevirtual 79, 3) := by decide +kernel
theorem dX2_readHead_44 : decode cX2_readHead 44 = .ok (.iinc 2 1, 3) := by decide +kernel
theorem dX2_readHead_47 : decode cX2_readHead 47 = .ok (.goto (-39), 3) := by decide +kernel
theorem dX2_readHead_50 : decode cX2_readHead 50 = .ok (.iload_n 1, 1) := by decide +kernel
theorem dX2_readHead_51 : decode cX2_readHead 51 = .ok (.ifCond .eq 22, 3) := by decide +kernel
theorem dX2_readHead_54 : decode cX2_readHead 54 = .ok (.aload_n 0, 1) := by decide +kernel
theorem dX2_readHead_55 : decode cX2_readHead 55 = .ok (.aload_n 0, 1) := by decide +kernel
theorem dX2_readHead_56 : decode cX2_readHead 56 = .ok (.getfield 35, 3) := by decide +kernel
theorem dX2_readHead_59 : decode cX2_readHead 59 = .ok (.iconst 0, 1) := by decide +kernel
theorem dX2_readHead_60 : decode cX2_readHead 60 = .ok (.invokevirtual 86, 3) := by decide +kernel
theorem dX2_readHead_63 : decode cX2_readHead 63 = .ok (.invokevirtual 89, 3) := by decide +kernel
theorem dX2_readHead_66 : decode cX2_readHead 66 = .ok (.ifCond .eq 7, 3) := by decide +kernel
theorem dX2_readHead_69 : decode cX2_readHead 69 = .ok (.iconst 1, 1) := by decide +kernel
theorem dX2_readHead_70 : decode cX2_readHead 70 = .ok (.goto 4, 3) := by decide +kernel
theorem dX2_readHead_73 : decode cX2_readHead 73 = .ok (.iconst 0, 1) := by decide +kernel
theorem dX2_readHead_74 : decode cX2_readHead 74 = .ok (.ireturn, 1) := by decide +kernel
theorem dX2_readTag_0 : decode cX2_readTag 0 = .ok (.aload_n 0, 1) := by decide +kernel
theorem dX2_readTag_1 : decode cX2_readTag 1 = .ok (.getfield 39, 3) := by decide +kernel
theorem dX2_readTag_4 : decode cX2_readTag 4 = .ok (.istore_n 1, 1) := by decide +kernel
theorem dX2_readTag_5 : decode cX2_readTag 5 = .ok (.aload_n 0, 1) := by decide +kernel
theorem dX2_readTag_6 : decode cX2_readTag 6 = .ok (.invokevirtual 93, 3) := by decide +kernel
theorem dX2_readTag_9 : decode cX2_readTag 9 = .ok (.ifCond .eq 10, 3) := by decide +kernel
theorem dX2_readTag_12 : decode cX2_readTag 12 = .ok (.aload_n 0, 1) := by decide +kernel
theorem dX2_readTag_13 : decode cX2_readTag 13 = .ok (.invokevirtual 96, 3) := by decide +kernel
theorem dX2_readTag_16 : decode cX2_readTag 16 = .ok (.ifCond .ne 5, 3) := by decide +kernel
theorem dX2_readTag_19 : decode cX2_readTag 19 = .ok (.iconst 0, 1) := by decide +kernel
theorem dX2_readTag_20 : decode cX2_readTag 20 = .ok (.ireturn, 1) := by decide +kernel
theorem dX2_readTag_21 : decode cX2_readTag 21 = .ok (.aload_n 0, 1) := by decide +kernel
theorem dX2_readTag_22 : decode cX2_readTag 22 = .ok (.invokevirtual 79, 3) := by decide +kernel
theorem dX2_readTag_25 : decode cX2_readTag 25 = .ok (.aload_n 0, 1) := by decide +kernel
theorem dX2_readTag_26 : decode cX2_readTag 26 = .ok (.getfield 28, 3) := by decide +kernel
theorem dX2_readTag_29 : decode cX2_readTag 29 = .ok (.aload_n 0, 1) := by decide +kernel
theorem dX2_readTag_30 : decode cX2_readTag 30 = .ok (.getfield 39, 3) := by decide +kernel
theorem dX2_readTag_33 : decode cX2_readTag 33 = .ok (.invokevirtual 76, 3) := by decide +kernel
theorem dX2_readTag_36 : decode cX2_readTag 36 = .ok (.bipush 93, 2) := by decide +kernel
theorem dX2_readTag_38 : decode cX2_readTag 38 = .ok (.if_icmp .eq 13, 3) := by decide +kernel
theorem dX2_readTag_41 : decode cX2_readTag 41 = .ok (.aload_n 0, 1) := by decide +kernel
theorem dX2_readTag_42 : decode cX2_readTag 42 = .ok (.iconst 1, 1) := by decide +kernel
theorem dX2_readTag_43 : decode cX2_readTag 43 = .ok (.aload_n 0, 1) := by decide +kernel
theorem dX2_readTag_44 : decode cX2_readTag 44 = .ok (.getfield 39, 3) := by decide +kernel
theorem dX2_readTag_47 : decode cX2_readTag 47 = .ok (.invokevirtual 99, 3) := by decide +kernel
theorem dX2_readTag_50 : decode cX2_readTag 50 = .ok (.ireturn, 1) := by decide +kernel
theorem dX2_readTag_51 : decode cX2_readTag 51 = .ok (.aload_n 0, 1) := by decide +kernel
theorem dX2_readTag_52 : decode cX2_readTag 52 = .ok (.dup, 1) := by decide +kernel
theorem dX2_readTag_53 : decode cX2_readTag 53 = .ok (.getfield 39, 3) := by decide +kernel
theorem dX2_readTag_56 : decode cX2_readTag 56 = .ok (.iconst 1, 1) := by decide +kernel
theorem dX2_readTag_57 : decode cX2_readTag 57 = .ok (.iadd, 1) := by decide +kernel
theorem dX2_readTag_58 : decode cX2_readTag 58 = .ok (.putfield 39, 3) := by decide +kernel
theorem dX2_readTag_61 : decode cX2_readTag 61 = .ok (.aload_n 0, 1) := by decide +kernel
theorem dX2_readTag_62 : decode cX2_readTag 62 = .ok (.getfield 35, 3) := by decide +kernel
theorem dX2_readTag_65 : decode cX2_readTag 65 = .ok (.getfield 103, 3) := by decide +kernel
theorem dX2_readTag_68 : decode cX2_readTag 68 = .ok (.bipush 8, 2) := by decide +kernel
theorem dX2_readTag_70 : decode cX2_readTag 70 = .ok (.if_icmp .ge 41, 3) := by decide +kernel
theorem dX2_readTag_73 : decode cX2_readTag 73 = .ok (.aload_n 0, 1) := by decide +kernel
theorem dX2_readTag_74 : decode cX2_readTag 74 = .ok (.getfield 46, 3) := by decide +kernel
theorem dX2_readTag_77 : decode cX2_readTag 77 = .ok (.invokevirtual 72, 3) := by decide +kernel
theorem dX2_readTag_80 : decode cX2_readTag 80 = .ok (.bipush 12, 2) := by decide +kernel
theorem dX2_readTag_82 : decode cX2_readTag 82 = .ok (.if_icmp .gt 29, 3) := by decide +kernel
theorem dX2_readTag_85 : decode cX2_readTag 85 = .ok (.aload_n 0, 1) := by decide +kernel
theorem dX2_readTag_86 : decode cX2_readTag 86 = .ok (.getfield 35, 3) := by decide +kernel
theorem dX2_readTag_89 : decode cX2_readTag 89 = .ok (.aload_n 0, 1) := by decide +kernel
theorem dX2_readTag_90 : decode cX2_readTag 90 = .ok (.getfield 46, 3) := by decide +kernel
theorem dX2_readTag_93 : decode cX2_readTag 93 = .ok (.invokevirtual 106, 3) := by decide +kernel
theorem dX2_readTag_96 : decode cX2_readTag 96 = .ok (.ifCond .ne 15, 3) := by decide +kernel
theorem dX2_readTag_99 : decode cX2_readTag 99 = .ok (.aload_n 0, 1) := by decide +kernel
theorem dX2_readTag_100 : decode cX2_readTag 100 = .ok (.getfield 49, 3) := by decide +kernel
theorem dX2_readTag_103 : decode cX2_readTag 103 = .ok (.invokevirtual 72, 3) := by decide +kernel
theorem dX2_readTag_106 : decode cX2_readTag 106 = .ok (.bipush 96, 2) := by decide +kernel
theorem dX2_readTag_108 : decode cX2_readTag 108 = .ok (.if_icmp .le 10, 3) := by decide +kernel
theorem dX2_readTag_111 : decode cX2_readTag 111 = .ok (.aload_n 0, 1) := by decide +kernel
theorem dX2_readTag_112 : decode cX2_readTag 112 = .ok (.iconst 2, 1) := by decide +kernel
theorem dX2_readTag_113 : decode cX2_readTag 113 = .ok (.iload_n 1, 1) := by decide +kernel
theorem dX2_readTag_114 : decode cX2_readTag 114 = .ok (.invokevirtual 99, 3) := by decide +kernel
theorem dX2_readTag_117 : decode cX2_readTag 117 = .ok (.ireturn, 1) := by decide +kernel
theorem dX2_readTag_118 : decode cX2_readTag 118 = .ok (.aload_n 0, 1) := by decide +kernel
theorem dX2_readTag_119 : decode cX2_readTag 119 = .ok (.getfield 46, 3) := by decide +kernel
theorem dX2_readTag_122 : decode cX2_readTag 122 = .ok (.ldc 110, 2) := by decide +kernel
theorem dX2_readTag_124 : decode cX2_readTag 124 = .ok (.invokevirtual 112, 3) := by decide +kernel
theorem dX2_readTag_127 : decode cX2_readTag 127 = .ok (.ifCond .eq 31, 3) := by decide +kernel
theorem dX2_readTag_130 : decode cX2_readTag 130 = .ok (.aload_n 0, 1) := by decide +kernel
theorem dX2_readTag_131 : decode cX2_readTag 131 = .ok (.getfield 21, 3) := by decide +kernel
theorem dX2_readTag_134 : decode cX2_readTag 134 = .ok (.aload_n 0, 1) := by decide +kernel
theorem dX2_readTag_135 : decode cX2_readTag 135 = .ok (.getfield 35, 3) := by decide +kernel
theorem dX2_readTag_138 : decode cX2_readTag 138 = .ok (.getfield 116, 3) := by decide +kernel
theorem dX2_readTag_141 : decode cX2_readTag 141 = .ok (.aload_n 0, 1) := by decide +kernel
theorem dX2_readTag_142 : decode cX2_readTag 142 = .ok (.getfield 49, 3) := by decide +kernel
theorem dX2_readTag_145 : decode cX2_readTag 145 = .ok (.invokevirtual 120, 3) := by decide +kernel
theorem dX2_readTag_148 : decode cX2_readTag 148 = .ok (.ifCond .ne 10, 3) := by decide +kernel
theorem dX2_readTag_151 : decode cX2_readTag 151 = .ok (.aload_n 0, 1) := by decide +kernel
theorem dX2_readTag_152 : decode cX2_readTag 152 = .ok (.iconst 3, 1) := by decide +kernel
theorem dX2_readTag_153 : decode cX2_readTag 153 = .ok (.iload_n 1, 1) := by decide +kernel
theorem dX2_readTag_154 : decode cX2_readTag 154 = .ok (.invokevirtual 99, 3) := by decide +kernel
theorem dX2_readTag_157 : decode cX2_readTag 157 = .ok (.ireturn, 1) := by decide +kernel
theorem dX2_readTag_158 : decode cX2_readTag 158 = .ok (.aload_n 0, 1) := by decide +kernel
theorem dX2_readTag_159 : decode cX2_readTag 159 = .ok (.getfield 35, 3) := by decide +kernel
theorem dX2_readTag_162 : decode cX2_readTag 162 = .ok (.aload_n 0, 1) := by decide +kernel
theorem dX2_readTag_163 : decode cX2_readTag 163 = .ok (.getfield 46, 3) := by decide +kernel
theorem dX2_readTag_166 : decode cX2_readTag 166 = .ok (.aload_n 0, 1) := by decide +kernel
theorem dX2_readTag_167 : decode cX2_readTag 167 = .ok (.getfield 49, 3) := by decide +kernel
theorem dX2_readTag_170 : decode cX2_readTag 170 = .ok (.invokevirtual 124, 3) := by decide +kernel
theorem dX2_readTag_173 : decode cX2_readTag 173 = .ok (.iconst 1, 1) := by decide +kernel
theorem dX2_readTag_174 : decode cX2_readTag 174 = .ok (.ireturn, 1) := by decide +kernel
theorem dX2_readName_0 : decode cX2_readName 0 = .ok (.aload_n 0, 1) := by decide +kernel
theorem dX2_readName_1 : decode cX2_readName 1 = .ok (.dup, 1) := by decide +kernel
theorem dX2_readName_2 : decode cX2_readName 2 = .ok (.getfield 39, 3) := by decide +kernel
theorem dX2_readName_5 : decode cX2_readName 5 = .ok (.iconst 1, 1) := by decide +kernel
theorem dX2_readName_6 : decode cX2_readName 6 = .ok (.iadd, 1) := by decide +kernel
theorem dX2_readName_7 : decode cX2_readName 7 = .ok (.putfield 39, 3) := by decide +kernel
theorem dX2_readName_10 : decode cX2_readName 10 = .ok (.aload_n 0, 1) := by decide +kernel
theorem dX2_readName_11 : decode cX2_readName 11 = .ok (.invokevirtual 79, 3) := by decide +kernel
theorem dX2_readName_14 : decode cX2_readName 14 = .ok (.aload_n 0, 1) := by decide +kernel
theorem dX2_readName_15 : decode cX2_readName 15 = .ok (.getfield 46, 3) := by decide +kernel
theorem dX2_readName_18 : decode cX2_readName 18 = .ok (.iconst 0, 1) := by decide +kernel
theorem dX2_readName_19 : decode cX2_readName 19 = .ok (.invokevirtual 128, 3) := by decide +kernel
theorem dX2_readName_22 : decode cX2_readName 22 = .ok (.aload_n 0, 1) := by decide +kernel
theorem dX2_readName_23 : decode cX2_readName 23 = .ok (.getfield 39, 3) := by decide +kernel
theorem dX2_readName_26 : decode cX2_readName 26 = .ok (.aload_n 0, 1) := by decide +kernel
theorem dX2_readName_27 : decode cX2_readName 27 = .ok (.getfield 28, 3) := by decide +kernel
theorem dX2_readName_30 : decode cX2_readName 30 = .ok (.invokevirtual 72, 3) := by decide +kernel
theorem dX2_readName_33 : decode cX2_readName 33 = .ok (.if_icmp .ge 68, 3) := by decide +kernel
theorem dX2_readName_36 : decode cX2_readName 36 = .ok (.aload_n 0, 1) := by decide +kernel
theorem dX2_readName_37 : decode cX2_readName 37 = .ok (.getfield 28, 3) := by decide +kernel
theorem dX2_readName_40 : decode cX2_readName 40 = .ok (.aload_n 0, 1) := by decide +kernel
theorem dX2_readName_41 : decode cX2_readName 41 = .ok (.getfield 39, 3) := by decide +kernel
theorem dX2_readName_44 : decode cX2_readName 44 = .ok (.invokevirtual 76, 3) := by decide +kernel
theorem dX2_readName_47 : decode cX2_readName 47 = .ok (.invokestatic 132, 3) := by decide +kernel
theorem dX2_readName_50 : decode cX2_readName 50 = .ok (.ifCond .ne 20, 3) := by decide +kernel
theorem dX2_readName_53 : decode cX2_readName 53 = .ok (.aload_n 0, 1) := by decide +kernel
theorem dX2_readName_54 : decode cX2_readName 54 = .ok (.getfield 28, 3) := by decide +kernel
theorem dX2_readName_57 : decode cX2_readName 57 = .ok (.aload_n 0, 1) := by decide +kernel
theorem dX2_readName_58 : decode cX2_readName 58 = .ok (.getfield 39, 3) := by decide +kernel
theorem dX2_readName_61 : decode cX2_readName 61 = .ok (.invokevirtual 76, 3) := by decide +kernel
theorem dX2_readName_64 : decode cX2_readName 64 = .ok (.invokestatic 136, 3) := by decide +kernel
theorem dX2_readName_67 : decode cX2_readName 67 = .ok (.ifCond .eq 34, 3) := by decide +kernel
theorem dX2_readName_70 : decode cX2_readName 70 = .ok (.aload_n 0, 1) := by decide +kernel
theorem dX2_readName_71 : decode cX2_readName 71 = .ok (.getfield 46, 3) := by decide +kernel
theorem dX2_readName_74 : decode cX2_readName 74 = .ok (.aload_n 0, 1) := by decide +kernel
theorem dX2_readName_75 : decode cX2_readName 75 = .ok (.getfield 28, 3) := by decide +kernel
theorem dX2_readName_78 : decode cX2_readName 78 = .ok (.aload_n 0, 1) := by decide +kernel
theorem dX2_readName_79 : decode cX2_readName 79 = .ok (.getfield 39, 3) := by decide +kernel
theorem dX2_readName_82 : decode cX2_readName 82 = .ok (.invokevirtual 76, 3) := by decide +kernel
theorem dX2_readName_85 : decode cX2_readName 85 = .ok (.invokevirtual 139, 3) := by decide +kernel
theorem dX2_readName_88 : decode cX2_readName 88 = .ok (.aload_n 0, 1) := by decide +kernel
theorem dX2_readName_89 : decode cX2_readName 89 = .ok (.dup, 1) := by decide +kernel
theorem dX2_readName_90 : decode cX2_readName 90 = .ok (.getfield 39, 3) := by decide +kernel
theorem dX2_readName_93 : decode cX2_readName 93 = .ok (.iconst 1, 1) := by decide +kernel
theorem dX2_readName_94 : decode cX2_readName 94 = .ok (.iadd, 1) := by decide +kernel
theorem dX2_readName_95 : decode cX2_readName 95 = .ok (.putfield 39, 3) := by decide +kernel
theorem dX2_readName_98 : decode cX2_readName 98 = .ok (.goto (-76), 3) := by decide +kernel
theorem dX2_readName_101 : decode cX2_readName 101 = .ok (.aload_n 0, 1) := by decide +kernel
theorem dX2_readName_102 : decode cX2_readName 102 = .ok (.getfield 46, 3) := by decide +kernel
theorem dX2_readName_105 : decode cX2_readName 105 = .ok (.invokevirtual 72, 3) := by decide +kernel
theorem dX2_readName_108 : decode cX2_readName 108 = .ok (.ifCond .gt 15, 3) := by decide +kernel
theorem dX2_readName_111 : decode cX2_readName 111 = .ok (.aload_n 0, 1) := by decide +kernel
theorem dX2_readName_112 : decode cX2_readName 112 = .ok (.iconst 1, 1) := by decide +kernel
theorem dX2_readName_113 : decode cX2_readName 113 = .ok (.aload_n 0, 1) := by decide +kernel
theorem dX2_readName_114 : decode cX2_readName 114 = .ok (.getfield 39, 3) := by decide +kernel
theorem dX2_readName_117 : decode cX2_readName 117 = .ok (.invokevirtual 99, 3) := by decide +kernel
theorem dX2_readName_120 : decode cX2_readName 120 = .ok (.ifCond .eq 7, 3) := by decide +kernel
theorem dX2_readName_123 : decode cX2_readName 123 = .ok (.iconst 1, 1) := by decide +kernel
theorem dX2_readName_124 : decode cX2_readName 124 = .ok (.goto 4, 3) := by decide +kernel
theorem dX2_readName_127 : decode cX2_readName 127 = .ok (.iconst 0, 1) := by decide +kernel
theorem dX2_readName_128 : decode cX2_readName 128 = .ok (.ireturn, 1) := by decide +kernel
theorem dX2_readValue_0 : decode cX2_readValue 0 = .ok (.aload_n 0, 1) := by decide +kernel
theorem dX2_readValue_1 : decode cX2_readValue 1 = .ok (.invokevirtual 79, 3) := by decide +kernel
theorem dX2_readValue_4 : decode cX2_readValue 4 = .ok (.aload_n 0, 1) := by decide +kernel
theorem dX2_readValue_5 : decode cX2_readValue 5 = .ok (.getfield 28, 3) := by decide +kernel
theorem dX2_readValue_8 : decode cX2_readValue 8 = .ok (.aload_n 0, 1) := by decide +kernel
theorem dX2_readValue_9 : decode cX2_readValue 9 = .ok (.getfield 39, 3) := by decide +kernel
theorem dX2_readValue_12 : decode cX2_readValue 12 = .ok (.invokevirtual 76, 3) := by decide +kernel
theorem dX2_readValue_15 : decode cX2_readValue 15 = .ok (.bipush 34, 2) := by decide +kernel
theorem dX2_readValue_17 : decode cX2_readValue 17 = .ok (.if_icmp .eq 13, 3) := by decide +kernel
theorem dX2_readValue_20 : decode cX2_readValue 20 = .ok (.aload_n 0, 1) := by decide +kernel
theorem dX2_readValue_21 : decode cX2_readValue 21 = .ok (.iconst 1, 1) := by decide +kernel
theorem dX2_readValue_22 : decode cX2_readValue 22 = .ok (.aload_n 0, 1) := by decide +kernel
theorem dX2_readValue_23 : decode cX2_readValue 23 = .ok (.getfield 39, 3) := by decide +kernel
theorem dX2_readValue_26 : decode cX2_readValue 26 = .ok (.invokevirtual 99, 3) := by decide +kernel
theorem dX2_readValue_29 : decode cX2_readValue 29 = .ok (.ireturn, 1) := by decide +kernel
theorem dX2_readValue_30 : decode cX2_readValue 30 = .ok (.aload_n 0, 1) := by decide +kernel
theorem dX2_readValue_31 : decode cX2_readValue 31 = .ok (.getfield 49, 3) := by decide +kernel
theorem dX2_readValue_34 : decode cX2_readValue 34 = .ok (.iconst 0, 1) := by decide +kernel
theorem dX2_readValue_35 : decode cX2_readValue 35 = .ok (.invokevirtual 128, 3) := by decide +kernel
theorem dX2_readValue_38 : decode cX2_readValue 38 = .ok (.aload_n 0, 1) := by decide +kernel
theorem dX2_readValue_39 : decode cX2_readValue 39 = .ok (.dup, 1) := by decide +kernel
theorem dX2_readValue_40 : decode cX2_readValue 40 = .ok (.getfield 39, 3) := by decide +kernel
theorem dX2_readValue_43 : decode cX2_readValue 43 = .ok (.iconst 1, 1) := by decide +kernel
theorem dX2_readValue_44 : decode cX2_readValue 44 = .ok (.iadd, 1) := by decide +kernel
theorem dX2_readValue_45 : decode cX2_readValue 45 = .ok (.putfield 39, 3) := by decide +kernel
theorem dX2_readValue_48 : decode cX2_readValue 48 = .ok (.aload_n 0, 1) := by decide +kernel
theorem dX2_readValue_49 : decode cX2_readValue 49 = .ok (.getfield 39, 3) := by decide +kernel
theorem dX2_readValue_52 : decode cX2_readValue 52 = .ok (.aload_n 0, 1) := by decide +kernel
theorem dX2_readValue_53 : decode cX2_readValue 53 = .ok (.getfield 28, 3) := by decide +kernel
theorem dX2_readValue_56 : decode cX2_readValue 56 = .ok (.invokevirtual 72, 3) := by decide +kernel
theorem dX2_readValue_59 : decode cX2_readValue 59 = .ok (.if_icmp .ge 120, 3) := by decide +kernel
theorem dX2_readValue_62 : decode cX2_readValue 62 = .ok (.aload_n 0, 1) := by decide +kernel
theorem dX2_readValue_63 : decode cX2_readValue 63 = .ok (.getfield 28, 3) := by decide +kernel
theorem dX2_readValue_66 : decode cX2_readValue 66 = .ok (.aload_n 0, 1) := by decide +kernel
theorem dX2_readValue_67 : decode cX2_readValue 67 = .ok (.getfield 39, 3) := by decide +kernel
theorem dX2_readValue_70 : decode cX2_readValue 70 = .ok (.invokevirtual 76, 3) := by decide +kernel
theorem dX2_readValue_73 : decode cX2_readValue 73 = .ok (.istore_n 1, 1) := by decide +kernel
theorem dX2_readValue_74 : decode cX2_readValue 74 = .ok (.iload_n 1, 1) := by decide +kernel
theorem dX2_readValue_75 : decode cX2_readValue 75 = .ok (.bipush 34, 2) := by decide +kernel
theorem dX2_readValue_77 : decode cX2_readValue 77 = .ok (.if_icmp .ne 15, 3) := by decide +kernel
theorem dX2_readValue_80 : decode cX2_readValue 80 = .ok (.aload_n 0, 1) := by decide +kernel
theorem dX2_readValue_81 : decode cX2_readValue 81 = .ok (.dup, 1) := by decide +kernel
theorem dX2_readValue_82 : decode cX2_readValue 82 = .ok (.getfield 39, 3) := by decide +kernel
theorem dX2_readValue_85 : decode cX2_readValue 85 = .ok (.iconst 1, 1) := by decide +kernel
theorem dX2_readValue_86 : decode cX2_readValue 86 = .ok (.iadd, 1) := by decide +kernel
theorem dX2_readValue_87 : decode cX2_readValue 87 = .ok (.putfield 39, 3) := by decide +kernel
theorem dX2_readValue_90 : decode cX2_readValue 90 = .ok (.iconst 1, 1) := by decide +kernel
theorem dX2_readValue_91 : decode cX2_readValue 91 = .ok (.ireturn, 1) := by decide +kernel
theorem dX2_readValue_92 : decode cX2_readValue 92 = .ok (.iload_n 1, 1) := by decide +kernel
theorem dX2_readValue_93 : decode cX2_readValue 93 = .ok (.bipush 92, 2) := by decide +kernel
theorem dX2_readValue_95 : decode cX2_readValue 95 = .ok (.if_icmp .ne 47, 3) := by decide +kernel
theorem dX2_readValue_98 : decode cX2_readValue 98 = .ok (.aload_n 0, 1) := by decide +kernel
theorem dX2_readValue_99 : decode cX2_readValue 99 = .ok (.dup, 1) := by decide +kernel
theorem dX2_readValue_100 : decode cX2_readValue 100 = .ok (.getfield 39, 3) := by decide +kernel
theorem dX2_readValue_103 : decode cX2_readValue 103 = .ok (.iconst 1, 1) := by decide +kernel
theorem dX2_readValue_104 : decode cX2_readValue 104 = .ok (.iadd, 1) := by decide +kernel
theorem dX2_readValue_105 : decode cX2_readValue 105 = .ok (.putfield 39, 3) := by decide +kernel
theorem dX2_readValue_108 : decode cX2_readValue 108 = .ok (.aload_n 0, 1) := by decide +kernel
theorem dX2_readValue_109 : decode cX2_readValue 109 = .ok (.getfield 28, 3) := by decide +kernel
theorem dX2_readValue_112 : decode cX2_readValue 112 = .ok (.aload_n 0, 1) := by decide +kernel
theorem dX2_readValue_113 : decode cX2_readValue 113 = .ok (.getfield 39, 3) := by decide +kernel
theorem dX2_readValue_116 : decode cX2_readValue 116 = .ok (.invokevirtual 76, 3) := by decide +kernel
theorem dX2_readValue_119 : decode cX2_readValue 119 = .ok (.istore_n 1, 1) := by decide +kernel
theorem dX2_readValue_120 : decode cX2_readValue 120 = .ok (.iload_n 1, 1) := by decide +kernel
theorem dX2_readValue_121 : decode cX2_readValue 121 = .ok (.bipush 34, 2) := by decide +kernel
theorem dX2_readValue_123 : decode cX2_readValue 123 = .ok (.if_icmp .eq 19, 3) := by decide +kernel
theorem dX2_readValue_126 : decode cX2_readValue 126 = .ok (.iload_n 1, 1) := by decide +kernel
theorem dX2_readValue_127 : decode cX2_readValue 127 = .ok (.bipush 92, 2) := by decide +kernel
theorem dX2_readValue_129 : decode cX2_readValue 129 = .ok (.if_icmp .eq 13, 3) := by decide +kernel
theorem dX2_readValue_132 : decode cX2_readValue 132 = .ok (.aload_n 0, 1) := by decide +kernel
theorem dX2_readValue_133 : decode cX2_readValue 133 = .ok (.iconst 1, 1) := by decide +kernel
theorem dX2_readValue_134 : decode cX2_readValue 134 = .ok (.aload_n 0, 1) := by decide +kernel
theorem dX2_readValue_135 : decode cX2_readValue 135 = .ok (.getfield 39, 3) := by decide +kernel
theorem dX2_readValue_138 : decode cX2_readValue 138 = .ok (.invokevirtual 99, 3) := by decide +kernel
theorem dX2_readValue_141 : decode cX2_readValue 141 = .ok (.ireturn, 1) := by decide +kernel
theorem dX2_readValue_142 : decode cX2_readValue 142 = .ok (.iload_n 1, 1) := by decide +kernel
theorem dX2_readValue_143 : decode cX2_readValue 143 = .ok (.bipush 10, 2) := by decide +kernel
theorem dX2_readValue_145 : decode cX2_readValue 145 = .ok (.if_icmp .ne 13, 3) := by decide +kernel
theorem dX2_readValue_148 : decode cX2_readValue 148 = .ok (.aload_n 0, 1) := by decide +kernel
theorem dX2_readValue_149 : decode cX2_readValue 149 = .ok (.iconst 1, 1) := by decide +kernel
theorem dX2_readValue_150 : decode cX2_readValue 150 = .ok (.aload_n 0, 1) := by decide +kernel
theorem dX2_readValue_151 : decode cX2_readValue 151 = .ok (.getfield 39, 3) := by decide +kernel
theorem dX2_readValue_154 : decode cX2_readValue 154 = .ok (.invokevirtual 99, 3) := by decide +kernel
theorem dX2_readValue_157 : decode cX2_readValue 157 = .ok (.ireturn, 1) := by decide +kernel
theorem dX2_readValue_158 : decode cX2_readValue 158 = .ok (.aload_n 0, 1) := by decide +kernel
theorem dX2_readValue_159 : decode cX2_readValue 159 = .ok (.getfield 49, 3) := by decide +kernel
theorem dX2_readValue_162 : decode cX2_readValue 162 = .ok (.iload_n 1, 1) := by decide +kernel
theorem dX2_readValue_163 : decode cX2_readValue 163 = .ok (.invokevirtual 139, 3) := by decide +kernel
theorem dX2_readValue_166 : decode cX2_readValue 166 = .ok (.aload_n 0, 1) := by decide +kernel
theorem dX2_readValue_167 : decode cX2_readValue 167 = .ok (.dup, 1) := by decide +kernel
theorem dX2_readValue_168 : decode cX2_readValue 168 = .ok (.getfield 39, 3) := by decide +kernel
theorem dX2_readValue_171 : decode cX2_readValue 171 = .ok (.iconst 1, 1) := by decide +kernel
theorem dX2_readValue_172 : decode cX2_readValue 172 = .ok (.iadd, 1) := by decide +kernel
theorem dX2_readValue_173 : decode cX2_readValue 173 = .ok (.putfield 39, 3) := by decide +kernel
theorem dX2_readValue_176 : decode cX2_readValue 176 = .ok (.goto (-128), 3) := by decide +kernel
theorem dX2_readValue_179 : decode cX2_readValue 179 = .ok (.aload_n 0, 1) := by decide +kernel
theorem dX2_readValue_180 : decode cX2_readValue 180 = .ok (.iconst 1, 1) := by decide +kernel
theorem dX2_readValue_181 : decode cX2_readValue 181 = .ok (.aload_n 0, 1) := by decide +kernel
theorem dX2_readValue_182 : decode cX2_readValue 182 = .ok (.getfield 39, 3) := by decide +kernel
theorem dX2_readValue_185 : decode cX2_readValue 185 = .ok (.invokevirtual 99, 3) := by decide +kernel
theorem dX2_readValue_188 : decode cX2_readValue 188 = .ok (.ireturn, 1) := by decide +kernel
theorem dX2_readRemarks_0 : decode cX2_readRemarks 0 = .ok (.iconst 1, 1) := by decide +kernel
theorem dX2_readRemarks_1 : decode cX2_readRemarks 1 = .ok (.istore_n 2, 1) := by decide +kernel
theorem dX2_readRemarks_2 : decode cX2_readRemarks 2 = .ok (.aload_n 0, 1) := by decide +kernel
theorem dX2_readRemarks_3 : decode cX2_readRemarks 3 = .ok (.invokevirtual 79, 3) := by decide +kernel
theorem dX2_readRemarks_6 : decode cX2_readRemarks 6 = .ok (.iconst 0, 1) := by decide +kernel
theorem dX2_readRemarks_7 : decode cX2_readRemarks 7 = .ok (.istore_n 3, 1) := by decide +kernel
theorem dX2_readRemarks_8 : decode cX2_readRemarks 8 = .ok (.iload_n 3, 1) := by decide +kernel
theorem dX2_readRemarks_9 : decode cX2_readRemarks 9 = .ok (.sipush 2000, 3) := by decide +kernel
theorem dX2_readRemarks_12 : decode cX2_readRemarks 12 = .ok (.if_icmp .ge 55, 3) := by decide +kernel
theorem dX2_readRemarks_15 : decode cX2_readRemarks 15 = .ok (.iload_n 2, 1) := by decide +kernel
theorem dX2_readRemarks_16 : decode cX2_readRemarks 16 = .ok (.ifCond .eq 51, 3) := by decide +kernel
theorem dX2_readRemarks_19 : decode cX2_readRemarks 19 = .ok (.aload_n 0, 1) := by decide +kernel
theorem dX2_readRemarks_20 : decode cX2_readRemarks 20 = .ok (.getfield 28, 3) := by decide +kernel
theorem dX2_readRemarks_23 : decode cX2_readRemarks 23 = .ok (.aload_n 0, 1) := by decide +kernel
theorem dX2_readRemarks_24 : decode cX2_readRemarks 24 = .ok (.getfield 39, 3) := by decide +kernel
theorem dX2_readRemarks_27 : decode cX2_readRemarks 27 = .ok (.invokevirtual 76, 3) := by decide +kernel
theorem dX2_readRemarks_30 : decode cX2_readRemarks 30 = .ok (.bipush 123, 2) := by decide +kernel
theorem dX2_readRemarks_32 : decode cX2_readRemarks 32 = .ok (.if_icmp .eq 19, 3) := by decide +kernel
theorem dX2_readRemarks_35 : decode cX2_readRemarks 35 = .ok (.aload_n 0, 1) := by decide +kernel
theorem dX2_readRemarks_36 : decode cX2_readRemarks 36 = .ok (.getfield 28, 3) := by decide +kernel
theorem dX2_readRemarks_39 : decode cX2_readRemarks 39 = .ok (.aload_n 0, 1) := by decide +kernel
theorem dX2_readRemarks_40 : decode cX2_readRemarks 40 = .ok (.getfield 39, 3) := by decide +kernel
theorem dX2_readRemarks_43 : decode cX2_readRemarks 43 = .ok (.invokevirtual 76, 3) := by decide +kernel
theorem dX2_readRemarks_46 : decode cX2_readRemarks 46 = .ok (.bipush 59, 2) := by decide +kernel
theorem dX2_readRemarks_48 : decode cX2_readRemarks 48 = .ok (.if_icmp .ne 19, 3) := by decide +kernel
theorem dX2_readRemarks_51 : decode cX2_readRemarks 51 = .ok (.aload_n 0, 1) := by decide +kernel
theorem dX2_readRemarks_52 : decode cX2_readRemarks 52 = .ok (.aload_n 1, 1) := by decide +kernel
theorem dX2_readRemarks_53 : decode cX2_readRemarks 53 = .ok (.invokevirtual 143, 3) := by decide +kernel
theorem dX2_readRemarks_56 : decode cX2_readRemarks 56 = .ok (.istore_n 2, 1) := by decide +kernel
theorem dX2_readRemarks_57 : decode cX2_readRemarks 57 = .ok (.aload_n 0, 1) := by decide +kernel
theorem dX2_readRemarks_58 : decode cX2_readRemarks 58 = .ok (.invokevirtual 79, 3) := by decide +kernel
theorem dX2_readRemarks_61 : decode cX2_readRemarks 61 = .ok (.iinc 3 1, 3) := by decide +kernel
theorem dX2_readRemarks_64 : decode cX2_readRemarks 64 = .ok (.goto (-56), 3) := by decide +kernel
theorem dX2_readRemarks_67 : decode cX2_readRemarks 67 = .ok (.iload_n 2, 1) := by decide +kernel
theorem dX2_readRemarks_68 : decode cX2_readRemarks 68 = .ok (.ireturn, 1) := by decide +kernel
theorem dX2_readRemark_0 : decode cX2_readRemark 0 = .ok (.aload_n 0, 1) := by decide +kernel
theorem dX2_readRemark_1 : decode cX2_readRemark 1 = .ok (.getfield 39, 3) := by decide +kernel
theorem dX2_readRemark_4 : decode cX2_readRemark 4 = .ok (.istore_n 2, 1) := by decide +kernel
theorem dX2_readRemark_5 : decode cX2_readRemark 5 = .ok (.aload_n 0, 1) := by decide +kernel
theorem dX2_readRemark_6 : decode cX2_readRemark 6 = .ok (.getfield 28, 3) := by decide +kernel
theorem dX2_readRemark_9 : decode cX2_readRemark 9 = .ok (.iload_n 2, 1) := by decide +kernel
theorem dX2_readRemark_10 : decode cX2_readRemark 10 = .ok (.invokevirtual 76, 3) := by decide +kernel
theorem dX2_readRemark_13 : decode cX2_readRemark 13 = .ok (.bipush 123, 2) := by decide +kernel
theorem dX2_readRemark_15 : decode cX2_readRemark 15 = .ok (.if_icmp .ne 7, 3) := by decide +kernel
theorem dX2_readRemark_18 : decode cX2_readRemark 18 = .ok (.iconst 1, 1) := by decide +kernel
theorem dX2_readRemark_19 : decode cX2_readRemark 19 = .ok (.goto 4, 3) := by decide +kernel
theorem dX2_readRemark_22 : decode cX2_readRemark 22 = .ok (.iconst 0, 1) := by decide +kernel
theorem dX2_readRemark_23 : decode cX2_readRemark 23 = .ok (.istore_n 3, 1) := by decide +kernel
theorem dX2_readRemark_24 : decode cX2_readRemark 24 = .ok (.aload_n 0, 1) := by decide +kernel
theorem dX2_readRemark_25 : decode cX2_readRemark 25 = .ok (.getfield 28, 3) := by decide +kernel
theorem dX2_readRemark_28 : decode cX2_readRemark 28 = .ok (.bipush 125, 2) := by decide +kernel
theorem dX2_readRemark_30 : decode cX2_readRemark 30 = .ok (.iload_n 2, 1) := by decide +kernel
theorem dX2_readRemark_31 : decode cX2_readRemark 31 = .ok (.invokevirtual 146, 3) := by decide +kernel
theorem dX2_readRemark_34 : decode cX2_readRemark 34 = .ok (.istore 4, 2) := by decide +kernel
theorem dX2_readRemark_36 : decode cX2_readRemark 36 = .ok (.iload_n 3, 1) := by decide +kernel
theorem dX2_readRemark_37 : decode cX2_readRemark 37 = .ok (.ifCond .eq 8, 3) := by decide +kernel
theorem dX2_readRemark_40 : decode cX2_readRemark 40 = .ok (.iload 4, 2) := by decide +kernel
theorem dX2_readRemark_42 : decode cX2_readRemark 42 = .ok (.goto 13, 3) := by decide +kernel
theorem dX2_readRemark_45 : decode cX2_readRemark 45 = .ok (.aload_n 0, 1) := by decide +kernel
theorem dX2_readRemark_46 : decode cX2_readRemark 46 = .ok (.getfield 28, 3) := by decide +kernel
theorem dX2_readRemark_49 : decode cX2_readRemark 49 = .ok (.bipush 10, 2) := by decide +kernel
theorem dX2_readRemark_51 : decode cX2_readRemark 51 = .ok (.iload_n 2, 1) := by decide +kernel
theorem dX2_readRemark_52 : decode cX2_readRemark 52 = .ok (.invokevirtual 146, 3) := by decide +kernel
theorem dX2_readRemark_55 : decode cX2_readRemark 55 = .ok (.istore 5, 2) := by decide +kernel
theorem dX2_readRemark_57 : decode cX2_readRemark 57 = .ok (.iload_n 3, 1) := by decide +kernel
theorem dX2_readRemark_58 : decode cX2_readRemark 58 = .ok (.ifCond .eq 18, 3) := by decide +kernel
theorem dX2_readRemark_61 : decode cX2_readRemark 61 = .ok (.iload 4, 2) := by decide +kernel
theorem dX2_readRemark_63 : decode cX2_readRemark 63 = .ok (.aload_n 0, 1) := by decide +kernel
theorem dX2_readRemark_64 : decode cX2_readRemark 64 = .ok (.getfield 28, 3) := by decide +kernel
theorem dX2_readRemark_67 : decode cX2_readRemark 67 = .ok (.invokevirtual 72, 3) := by decide +kernel
theorem dX2_readRemark_70 : decode cX2_readRemark 70 = .ok (.if_icmp .ne 21, 3) := by decide +kernel
theorem dX2_readRemark_73 : decode cX2_readRemark 73 = .ok (.goto 10, 3) := by decide +kernel
theorem dX2_readRemark_76 : decode cX2_readRemark 76 = .ok (.iload 4, 2) := by decide +kernel
theorem dX2_readRemark_78 : decode cX2_readRemark 78 = .ok (.iload 5, 2) := by decide +kernel
theorem dX2_readRemark_80 : decode cX2_readRemark 80 = .ok (.if_icmp .ge 11, 3) := by decide +kernel
theorem dX2_readRemark_83 : decode cX2_readRemark 83 = .ok (.aload_n 0, 1) := by decide +kernel
theorem dX2_readRemark_84 : decode cX2_readRemark 84 = .ok (.iconst 1, 1) := by decide +kernel
theorem dX2_readRemark_85 : decode cX2_readRemark 85 = .ok (.iload 4, 2) := by decide +kernel
theorem dX2_readRemark_87 : decode cX2_readRemark 87 = .ok (.invokevirtual 99, 3) := by decide +kernel
theorem dX2_readRemark_90 : decode cX2_readRemark 90 = .ok (.ireturn, 1) := by decide +kernel
theorem dX2_readRemark_91 : decode cX2_readRemark 91 = .ok (.aload_n 1, 1) := by decide +kernel
theorem dX2_readRemark_92 : decode cX2_readRemark 92 = .ok (.aload_n 0, 1) := by decide +kernel
theorem dX2_readRemark_93 : decode cX2_readRemark 93 = .ok (.getfield 28, 3) := by decide +kernel
theorem dX2_readRemark_96 : decode cX2_readRemark 96 = .ok (.iload_n 2, 1) := by decide +kernel
theorem dX2_readRemark_97 : decode cX2_readRemark 97 = .ok (.iconst 1, 1) := by decide +kernel
theorem dX2_readRemark_98 : decode cX2_readRemark 98 = .ok (.iadd, 1) := by decide +kernel
theorem dX2_readRemark_99 : decode cX2_readRemark 99 = .ok (.iload 5, 2) := by decide +kernel
theorem dX2_readRemark_101 : decode cX2_readRemark 101 = .ok (.invokevirtual 150, 3) := by decide +kernel
theorem dX2_readRemark_104 : decode cX2_readRemark 104 = .ok (.ifCond .ne 11, 3) := by decide +kernel
theorem dX2_readRemark_107 : decode cX2_readRemark 107 = .ok (.aload_n 0, 1) := by decide +kernel
theorem dX2_readRemark_108 : decode cX2_readRemark 108 = .ok (.bipush 8, 2) := by decide +kernel
theorem dX2_readRemark_110 : decode cX2_readRemark 110 = .ok (.iload_n 2, 1) := by decide +kernel
theorem dX2_readRemark_111 : decode cX2_readRemark 111 = .ok (.invokevirtual 99, 3) := by decide +kernel
theorem dX2_readRemark_114 : decode cX2_readRemark 114 = .ok (.ireturn, 1) := by decide +kernel
theorem dX2_readRemark_115 : decode cX2_readRemark 115 = .ok (.aload_n 0, 1) := by decide +kernel
theorem dX2_readRemark_116 : decode cX2_readRemark 116 = .ok (.iload 5, 2) := by decide +kernel
theorem dX2_readRemark_118 : decode cX2_readRemark 118 = .ok (.iconst 1, 1) := by decide +kernel
theorem dX2_readRemark_119 : decode cX2_readRemark 119 = .ok (.iadd, 1) := by decide +kernel
theorem dX2_readRemark_120 : decode cX2_readRemark 120 = .ok (.aload_n 0, 1) := by decide +kernel
theorem dX2_readRemark_121 : decode cX2_readRemark 121 = .ok (.getfield 28, 3) := by decide +kernel
theorem dX2_readRemark_124 : decode cX2_readRemark 124 = .ok (.invokevirtual 72, 3) := by decide +kernel
theorem dX2_readRemark_127 : decode cX2_readRemark 127 = .ok (.invokestatic 156, 3) := by decide +kernel
theorem dX2_readRemark_130 : decode cX2_readRemark 130 = .ok (.putfield 39, 3) := by decide +kernel
theorem dX2_readRemark_133 : decode cX2_readRemark 133 = .ok (.iconst 1, 1) := by decide +kernel
theorem dX2_readRemark_134 : decode cX2_readRemark 134 = .ok (.ireturn, 1) := by decide +kernel
theorem dX2_readMoves_0 : decode cX2_readMoves 0 = .ok (.iconst 0, 1) := by decide +kernel
theorem dX2_readMoves_1 : decode cX2_readMoves 1 = .ok (.istore_n 1, 1) := by decide +kernel
theorem dX2_readMoves_2 : decode cX2_readMoves 2 = .ok (.aload_n 0, 1) := by decide +kernel
theorem dX2_readMoves_3 : decode cX2_readMoves 3 = .ok (.getfield 52, 3) := by decide +kernel
theorem dX2_readMoves_6 : decode cX2_readMoves 6 = .ok (.iconst 0, 1) := by decide +kernel
theorem dX2_readMoves_7 : decode cX2_readMoves 7 = .ok (.iconst 0, 1) := by decide +kernel
theorem dX2_readMoves_8 : decode cX2_readMoves 8 = .ok (.iastore, 1) := by decide +kernel
theorem dX2_readMoves_9 : decode cX2_readMoves 9 = .ok (.aload_n 0, 1) := by decide +kernel
theorem dX2_readMoves_10 : decode cX2_readMoves 10 = .ok (.getfield 56, 3) := by decide +kernel
theorem dX2_readMoves_13 : decode cX2_readMoves 13 = .ok (.iconst 0, 1) := by decide +kernel
theorem dX2_readMoves_14 : decode cX2_readMoves 14 = .ok (.iconst 0, 1) := by decide +kernel
theorem dX2_readMoves_15 : decode cX2_readMoves 15 = .ok (.iastore, 1) := by decide +kernel
theorem dX2_readMoves_16 : decode cX2_readMoves 16 = .ok (.aload_n 0, 1) := by decide +kernel
theorem dX2_readMoves_17 : decode cX2_readMoves 17 = .ok (.getfield 65, 3) := by decide +kernel
theorem dX2_readMoves_20 : decode cX2_readMoves 20 = .ok (.iconst 0, 1) := by decide +kernel
theorem dX2_readMoves_21 : decode cX2_readMoves 21 = .ok (.aaload, 1) := by decide +kernel
theorem dX2_readMoves_22 : decode cX2_readMoves 22 = .ok (.aload_n 0, 1) := by decide +kernel
theorem dX2_readMoves_23 : decode cX2_readMoves 23 = .ok (.getfield 35, 3) := by decide +kernel
theorem dX2_readMoves_26 : decode cX2_readMoves 26 = .ok (.getfield 116, 3) := by decide +kernel
theorem dX2_readMoves_29 : decode cX2_readMoves 29 = .ok (.invokevirtual 162, 3) := by decide +kernel
theorem dX2_readMoves_32 : decode cX2_readMoves 32 = .ok (.iconst 0, 1) := by decide +kernel
theorem dX2_readMoves_33 : decode cX2_readMoves 33 = .ok (.istore_n 2, 1) := by decide +kernel
theorem dX2_readMoves_34 : decode cX2_readMoves 34 = .ok (.iload_n 2, 1) := by decide +kernel
theorem dX2_readMoves_35 : decode cX2_readMoves 35 = .ok (.sipush 2000, 3) := by decide +kernel
theorem dX2_readMoves_38 : decode cX2_readMoves 38 = .ok (.if_icmp .gt 165, 3) := by decide +kernel
theorem dX2_readMoves_41 : decode cX2_readMoves 41 = .ok (.aload_n 0, 1) := by decide +kernel
theorem dX2_readMoves_42 : decode cX2_readMoves 42 = .ok (.invokevirtual 79, 3) := by decide +kernel
theorem dX2_readMoves_45 : decode cX2_readMoves 45 = .ok (.aload_n 0, 1) := by decide +kernel
theorem dX2_readMoves_46 : decode cX2_readMoves 46 = .ok (.getfield 56, 3) := by decide +kernel
theorem dX2_readMoves_49 : decode cX2_readMoves 49 = .ok (.iload_n 1, 1) := by decide +kernel
theorem dX2_readMoves_50 : decode cX2_readMoves 50 = .ok (.iaload, 1) := by decide +kernel
theorem dX2_readMoves_51 : decode cX2_readMoves 51 = .ok (.aload_n 0, 1) := by decide +kernel
theorem dX2_readMoves_52 : decode cX2_readMoves 52 = .ok (.getfield 52, 3) := by decide +kernel
theorem dX2_readMoves_55 : decode cX2_readMoves 55 = .ok (.iload_n 1, 1) := by decide +kernel
theorem dX2_readMoves_56 : decode cX2_readMoves 56 = .ok (.iaload, 1) := by decide +kernel
theorem dX2_readMoves_57 : decode cX2_readMoves 57 = .ok (.if_icmp .eq 7, 3) := by decide +kernel
theorem dX2_readMoves_60 : decode cX2_readMoves 60 = .ok (.iconst 1, 1) := by decide +kernel
theorem dX2_readMoves_61 : decode cX2_readMoves 61 = .ok (.goto 4, 3) := by decide +kernel
theorem dX2_readMoves_64 : decode cX2_readMoves 64 = .ok (.iconst 0, 1) := by decide +kernel
theorem dX2_readMoves_65 : decode cX2_readMoves 65 = .ok (.istore_n 3, 1) := by decide +kernel
theorem dX2_readMoves_66 : decode cX2_readMoves 66 = .ok (.iload_n 1, 1) := by decide +kernel
theorem dX2_readMoves_67 : decode cX2_readMoves 67 = .ok (.ifCond .ne 13, 3) := by decide +kernel
theorem dX2_readMoves_70 : decode cX2_readMoves 70 = .ok (.aload_n 0, 1) := by decide +kernel
theorem dX2_readMoves_71 : decode cX2_readMoves 71 = .ok (.invokevirtual 166, 3) := by decide +kernel
theorem dX2_readMoves_74 : decode cX2_readMoves 74 = .ok (.iconst (-1), 1) := by decide +kernel
theorem dX2_readMoves_75 : decode cX2_readMoves 75 = .ok (.if_icmp .eq 5, 3) := by decide +kernel
theorem dX2_readMoves_78 : decode cX2_readMoves 78 = .ok (.iconst 1, 1) := by decide +kernel
theorem dX2_readMoves_79 : decode cX2_readMoves 79 = .ok (.ireturn, 1) := by decide +kernel
theorem dX2_readMoves_80 : decode cX2_readMoves 80 = .ok (.iload_n 3, 1) := by decide +kernel
theorem dX2_readMoves_81 : decode cX2_readMoves 81 = .ok (.ifCond .eq 47, 3) := by decide +kernel
theorem dX2_readMoves_84 : decode cX2_readMoves 84 = .ok (.aload_n 0, 1) := by decide +kernel
theorem dX2_readMoves_85 : decode cX2_readMoves 85 = .ok (.getfield 28, 3) := by decide +kernel
theorem dX2_readMoves_88 : decode cX2_readMoves 88 = .ok (.aload_n 0, 1) := by decide +kernel
theorem dX2_readMoves_89 : decode cX2_readMoves 89 = .ok (.getfield 39, 3) := by decide +kernel
theorem dX2_readMoves_92 : decode cX2_readMoves 92 = .ok (.invokevirtual 76, 3) := by decide +kernel
theorem dX2_readMoves_95 : decode cX2_readMoves 95 = .ok (.bipush 40, 2) := by decide +kernel
theorem dX2_readMoves_97 : decode cX2_readMoves 97 = .ok (.if_icmp .ne 31, 3) := by decide +kernel
theorem dX2_readMoves_100 : decode cX2_readMoves 100 = .ok (.iload_n 1, 1) := by decide +kernel
theorem dX2_readMoves_101 : decode cX2_readMoves 101 = .ok (.bipush 6, 2) := by decide +kernel
theorem dX2_readMoves_103 : decode cX2_readMoves 103 = .ok (.if_icmp .lt 14, 3) := by decide +kernel
theorem dX2_readMoves_106 : decode cX2_readMoves 106 = .ok (.aload_n 0, 1) := by decide +kernel
theorem dX2_readMoves_107 : decode cX2_readMoves 107 = .ok (.bipush 8, 2) := by decide +kernel
theorem dX2_readMoves_109 : decode cX2_readMoves 109 = .ok (.aload_n 0, 1) := by decide +kernel
theorem dX2_readMoves_110 : decode cX2_readMoves 110 = .ok (.getfield 39, 3) := by decide +kernel
theorem dX2_readMoves_113 : decode cX2_readMoves 113 = .ok (.invokevirtual 99, 3) := by decide +kernel
theorem dX2_readMoves_116 : decode cX2_readMoves 116 = .ok (.ireturn, 1) := by decide +kernel
theorem dX2_readMoves_117 : decode cX2_readMoves 117 = .ok (.iinc 1 1, 3) := by decide +kernel
theorem dX2_readMoves_120 : decode cX2_readMoves 120 = .ok (.aload_n 0, 1) := by decide +kernel
theorem dX2_readMoves_121 : decode cX2_readMoves 121 = .ok (.iload_n 1, 1) := by decide +kernel
theorem dX2_readMoves_122 : decode cX2_readMoves 122 = .ok (.invokevirtual 169, 3) := by decide +kernel
theorem dX2_readMoves_125 : decode cX2_readMoves 125 = .ok (.goto 72, 3) := by decide +kernel
theorem dX2_readMoves_128 : decode cX2_readMoves 128 = .ok (.iload_n 3, 1) := by decide +kernel
theorem dX2_readMoves_129 : decode cX2_readMoves 129 = .ok (.ifCond .eq 58, 3) := by decide +kernel
theorem dX2_readMoves_132 : decode cX2_readMoves 132 = .ok (.iload_n 1, 1) := by decide +kernel
theorem dX2_readMoves_133 : decode cX2_readMoves 133 = .ok (.ifCond .le 54, 3) := by decide +kernel
theorem dX2_readMoves_136 : decode cX2_readMoves 136 = .ok (.aload_n 0, 1) := by decide +kernel
theorem dX2_readMoves_137 : decode cX2_readMoves 137 = .ok (.getfield 28, 3) := by decide +kernel
theorem dX2_readMoves_140 : decode cX2_readMoves 140 = .ok (.aload_n 0, 1) := by decide +kernel
theorem dX2_readMoves_141 : decode cX2_readMoves 141 = .ok (.getfield 39, 3) := by decide +kernel
theorem dX2_readMoves_144 : decode cX2_readMoves 144 = .ok (.invokevirtual 76, 3) := by decide +kernel
theorem dX2_readMoves_147 : decode cX2_readMoves 147 = .ok (.bipush 41, 2) := by decide +kernel
theorem dX2_readMoves_149 : decode cX2_readMoves 149 = .ok (.if_icmp .ne 38, 3) := by decide +kernel
theorem dX2_readMoves_152 : decode cX2_readMoves 152 = .ok (.iinc 1 (-1), 3) := by decide +kernel
theorem dX2_readMoves_155 : decode cX2_readMoves 155 = .ok (.aload_n 0, 1) := by decide +kernel
theorem dX2_readMoves_156 : decode cX2_readMoves 156 = .ok (.dup, 1) := by decide +kernel
theorem dX2_readMoves_157 : decode cX2_readMoves 157 = .ok (.getfield 39, 3) := by decide +kernel
theorem dX2_readMoves_160 : decode cX2_readMoves 160 = .ok (.iconst 1, 1) := by decide +kernel
theorem dX2_readMoves_161 : decode cX2_readMoves 161 = .ok (.iadd, 1) := by decide +kernel
theorem dX2_readMoves_162 : decode cX2_readMoves 162 = .ok (.putfield 39, 3) := by decide +kernel
theorem dX2_readMoves_165 : decode cX2_readMoves 165 = .ok (.aload_n 0, 1) := by decide +kernel
theorem dX2_readMoves_166 : decode cX2_readMoves 166 = .ok (.aload_n 0, 1) := by decide +kernel
theorem dX2_readMoves_167 : decode cX2_readMoves 167 = .ok (.getfield 35, 3) := by decide +kernel
theorem dX2_readMoves_170 : decode cX2_readMoves 170 = .ok (.aload_n 0, 1) := by decide +kernel
theorem dX2_readMoves_171 : decode cX2_readMoves 171 = .ok (.getfield 56, 3) := by decide +kernel
theorem dX2_readMoves_174 : decode cX2_readMoves 174 = .ok (.iload_n 1, 1) := by decide +kernel
theorem dX2_readMoves_175 : decode cX2_readMoves 175 = .ok (.iaload, 1) := by decide +kernel
theorem dX2_readMoves_176 : decode cX2_readMoves 176 = .ok (.invokevirtual 86, 3) := by decide +kernel
theorem dX2_readMoves_179 : decode cX2_readMoves 179 = .ok (.invokevirtual 89, 3) := by decide +kernel
theorem dX2_readMoves_182 : decode cX2_readMoves 182 = .ok (.ifCond .ne 15, 3) := by decide +kernel
theorem dX2_readMoves_185 : decode cX2_readMoves 185 = .ok (.iconst 0, 1) := by decide +kernel
theorem dX2_readMoves_186 : decode cX2_readMoves 186 = .ok (.ireturn, 1) := by decide +kernel
theorem dX2_readMoves_187 : decode cX2_readMoves 187 = .ok (.aload_n 0, 1) := by decide +kernel
theorem dX2_readMoves_188 : decode cX2_readMoves 188 = .ok (.iload_n 1, 1) := by decide +kernel
theorem dX2_readMoves_189 : decode cX2_readMoves 189 = .ok (.invokevirtual 172, 3) := by decide +kernel
theorem dX2_readMoves_192 : decode cX2_readMoves 192 = .ok (.ifCond .ne 5, 3) := by decide +kernel
theorem dX2_readMoves_195 : decode cX2_readMoves 195 = .ok (.iconst 0, 1) := by decide +kernel
theorem dX2_readMoves_196 : decode cX2_readMoves 196 = .ok (.ireturn, 1) := by decide +kernel
theorem dX2_readMoves_197 : decode cX2_readMoves 197 = .ok (.iinc 2 1, 3) := by decide +kernel
theorem dX2_readMoves_200 : decode cX2_readMoves 200 = .ok (.goto (-166), 3) := by decide +kernel
theorem dX2_readMoves_203 : decode cX2_readMoves 203 = .ok (.aload_n 0, 1) := by decide +kernel
theorem dX2_readMoves_204 : decode cX2_readMoves 204 = .ok (.iconst 1, 1) := by decide +kernel
theorem dX2_readMoves_205 : decode cX2_readMoves 205 = .ok (.aload_n 0, 1) := by decide +kernel
theorem dX2_readMoves_206 : decode cX2_readMoves 206 = .ok (.getfield 39, 3) := by decide +kernel
theorem dX2_readMoves_209 : decode cX2_readMoves 209 = .ok (.invokevirtual 99, 3) := by decide +kernel
theorem dX2_readMoves_212 : decode cX2_readMoves 212 = .ok (.ireturn, 1) := by decide +kernel
theorem dX2_openLine_0 : decode cX2_openLine 0 = .ok (.aload_n 0, 1) := by decide +kernel
theorem dX2_openLine_1 : decode cX2_openLine 1 = .ok (.getfield 52, 3) := by decide +kernel
theorem dX2_openLine_4 : decode cX2_openLine 4 = .ok (.iload_n 1, 1) := by decide +kernel
theorem dX2_openLine_5 : decode cX2_openLine 5 = .ok (.aload_n 0, 1) := by decide +kernel
theorem dX2_openLine_6 : decode cX2_openLine 6 = .ok (.getfield 35, 3) := by decide +kernel
theorem dX2_openLine_9 : decode cX2_openLine 9 = .ok (.aload_n 0, 1) := by decide +kernel
theorem dX2_openLine_10 : decode cX2_openLine 10 = .ok (.getfield 56, 3) := by decide +kernel
theorem dX2_openLine_13 : decode cX2_openLine 13 = .ok (.iload_n 1, 1) := by decide +kernel
theorem dX2_openLine_14 : decode cX2_openLine 14 = .ok (.iconst 1, 1) := by decide +kernel
theorem dX2_openLine_15 : decode cX2_openLine 15 = .ok (.isub, 1) := by decide +kernel
theorem dX2_openLine_16 : decode cX2_openLine 16 = .ok (.iaload, 1) := by decide +kernel
theorem dX2_openLine_17 : decode cX2_openLine 17 = .ok (.invokevirtual 86, 3) := by decide +kernel
theorem dX2_openLine_20 : decode cX2_openLine 20 = .ok (.getfield 176, 3) := by decide +kernel
theorem dX2_openLine_23 : decode cX2_openLine 23 = .ok (.iastore, 1) := by decide +kernel
theorem dX2_openLine_24 : decode cX2_openLine 24 = .ok (.aload_n 0, 1) := by decide +kernel
theorem dX2_openLine_25 : decode cX2_openLine 25 = .ok (.getfield 56, 3) := by decide +kernel
theorem dX2_openLine_28 : decode cX2_openLine 28 = .ok (.iload_n 1, 1) := by decide +kernel
theorem dX2_openLine_29 : decode cX2_openLine 29 = .ok (.aload_n 0, 1) := by decide +kernel
theorem dX2_openLine_30 : decode cX2_openLine 30 = .ok (.getfield 52, 3) := by decide +kernel
theorem dX2_openLine_33 : decode cX2_openLine 33 = .ok (.iload_n 1, 1) := by decide +kernel
theorem dX2_openLine_34 : decode cX2_openLine 34 = .ok (.iaload, 1) := by decide +kernel
theorem dX2_openLine_35 : decode cX2_openLine 35 = .ok (.iastore, 1) := by decide +kernel
theorem dX2_openLine_36 : decode cX2_openLine 36 = .ok (.aload_n 0, 1) := by decide +kernel
theorem dX2_openLine_37 : decode cX2_openLine 37 = .ok (.getfield 65, 3) := by decide +kernel
theorem dX2_openLine_40 : decode cX2_openLine 40 = .ok (.iload_n 1, 1) := by decide +kernel
theorem dX2_openLine_41 : decode cX2_openLine 41 = .ok (.aaload, 1) := by decide +kernel
theorem dX2_openLine_42 : decode cX2_openLine 42 = .ok (.aload_n 0, 1) := by decide +kernel
theorem dX2_openLine_43 : decode cX2_openLine 43 = .ok (.getfield 61, 3) := by decide +kernel
theorem dX2_openLine_46 : decode cX2_openLine 46 = .ok (.iload_n 1, 1) := by decide +kernel
theorem dX2_openLine_47 : decode cX2_openLine 47 = .ok (.iconst 1, 1) := by decide +kernel
theorem dX2_openLine_48 : decode cX2_openLine 48 = .ok (.isub, 1) := by decide +kernel
theorem dX2_openLine_49 : decode cX2_openLine 49 = .ok (.aaload, 1) := by decide +kernel
theorem dX2_openLine_50 : decode cX2_openLine 50 = .ok (.invokevirtual 162, 3) := by decide +kernel
theorem dX2_openLine_53 : decode cX2_openLine 53 = .ok (.aload_n 0, 1) := by decide +kernel
theorem dX2_openLine_54 : decode cX2_openLine 54 = .ok (.dup, 1) := by decide +kernel
theorem dX2_openLine_55 : decode cX2_openLine 55 = .ok (.getfield 39, 3) := by decide +kernel
theorem dX2_openLine_58 : decode cX2_openLine 58 = .ok (.iconst 1, 1) := by decide +kernel
theorem dX2_openLine_59 : decode cX2_openLine 59 = .ok (.iadd, 1) := by decide +kernel
theorem dX2_openLine_60 : decode cX2_openLine 60 = .ok (.putfield 39, 3) := by decide +kernel
theorem dX2_openLine_63 : decode cX2_openLine 63 = .ok (.return_, 1) := by decide +kernel
theorem dX2_readMove_0 : decode cX2_readMove 0 = .ok (.aload_n 0, 1) := by decide +kernel
theorem dX2_readMove_1 : decode cX2_readMove 1 = .ok (.getfield 65, 3) := by decide +kernel
theorem dX2_readMove_4 : decode cX2_readMove 4 = .ok (.iload_n 1, 1) := by decide +kernel
theorem dX2_readMove_5 : decode cX2_readMove 5 = .ok (.aaload, 1) := by decide +kernel
theorem dX2_readMove_6 : decode cX2_readMove 6 = .ok (.astore_n 2, 1) := by decide +kernel
theorem dX2_readMove_7 : decode cX2_readMove 7 = .ok (.aload_n 0, 1) := by decide +kernel
theorem dX2_readMove_8 : decode cX2_readMove 8 = .ok (.getfield 28, 3) := by decide +kernel
theorem dX2_readMove_11 : decode cX2_readMove 11 = .ok (.aload_n 0, 1) := by decide +kernel
theorem dX2_readMove_12 : decode cX2_readMove 12 = .ok (.getfield 39, 3) := by decide +kernel
theorem dX2_readMove_15 : decode cX2_readMove 15 = .ok (.invokevirtual 76, 3) := by decide +kernel
theorem dX2_readMove_18 : decode cX2_readMove 18 = .ok (.invokestatic 136, 3) := by decide +kernel
theorem dX2_readMove_21 : decode cX2_readMove 21 = .ok (.ifCond .eq 16, 3) := by decide +kernel
theorem dX2_readMove_24 : decode cX2_readMove 24 = .ok (.aload_n 0, 1) := by decide +kernel
theorem dX2_readMove_25 : decode cX2_readMove 25 = .ok (.aload_n 2, 1) := by decide +kernel
theorem dX2_readMove_26 : decode cX2_readMove 26 = .ok (.getfield 179, 3) := by decide +kernel
theorem dX2_readMove_29 : decode cX2_readMove 29 = .ok (.invokevirtual 182, 3) := by decide +kernel
theorem dX2_readMove_32 : decode cX2_readMove 32 = .ok (.ifCond .ne 5, 3) := by decide +kernel
theorem dX2_readMove_35 : decode cX2_readMove 35 = .ok (.iconst 0, 1) := by decide +kernel
theorem dX2_readMove_36 : decode cX2_readMove 36 = .ok (.ireturn, 1) := by decide +kernel
theorem dX2_readMove_37 : decode cX2_readMove 37 = .ok (.aload_n 0, 1) := by decide +kernel
theorem dX2_readMove_38 : decode cX2_readMove 38 = .ok (.getfield 28, 3) := by decide +kernel
theorem dX2_readMove_41 : decode cX2_readMove 41 = .ok (.aload_n 0, 1) := by decide +kernel
theorem dX2_readMove_42 : decode cX2_readMove 42 = .ok (.getfield 39, 3) := by decide +kernel
theorem dX2_readMove_45 : decode cX2_readMove 45 = .ok (.invokevirtual 76, 3) := by decide +kernel
theorem dX2_readMove_48 : decode cX2_readMove 48 = .ok (.invokestatic 132, 3) := by decide +kernel
theorem dX2_readMove_51 : decode cX2_readMove 51 = .ok (.ifCond .ne 13, 3) := by decide +kernel
theorem dX2_readMove_54 : decode cX2_readMove 54 = .ok (.aload_n 0, 1) := by decide +kernel
theorem dX2_readMove_55 : decode cX2_readMove 55 = .ok (.iconst 1, 1) := by decide +kernel
theorem dX2_readMove_56 : decode cX2_readMove 56 = .ok (.aload_n 0, 1) := by decide +kernel
theorem dX2_readMove_57 : decode cX2_readMove 57 = .ok (.getfield 39, 3) := by decide +kernel
theorem dX2_readMove_60 : decode cX2_readMove 60 = .ok (.invokevirtual 99, 3) := by decide +kernel
theorem dX2_readMove_63 : decode cX2_readMove 63 = .ok (.ireturn, 1) := by decide +kernel
theorem dX2_readMove_64 : decode cX2_readMove 64 = .ok (.aload_n 0, 1) := by decide +kernel
theorem dX2_readMove_65 : decode cX2_readMove 65 = .ok (.getfield 39, 3) := by decide +kernel
theorem dX2_readMove_68 : decode cX2_readMove 68 = .ok (.istore_n 3, 1) := by decide +kernel
theorem dX2_readMove_69 : decode cX2_readMove 69 = .ok (.aload_n 0, 1) := by decide +kernel
theorem dX2_readMove_70 : decode cX2_readMove 70 = .ok (.invokevirtual 185, 3) := by decide +kernel
theorem dX2_readMove_73 : decode cX2_readMove 73 = .ok (.aload_n 0, 1) := by decide +kernel
theorem dX2_readMove_74 : decode cX2_readMove 74 = .ok (.getfield 12, 3) := by decide +kernel
theorem dX2_readMove_77 : decode cX2_readMove 77 = .ok (.aload_n 2, 1) := by decide +kernel
theorem dX2_readMove_78 : decode cX2_readMove 78 = .ok (.aload_n 0, 1) := by decide +kernel
theorem dX2_readMove_79 : decode cX2_readMove 79 = .ok (.getfield 28, 3) := by decide +kernel
theorem dX2_readMove_82 : decode cX2_readMove 82 = .ok (.iload_n 3, 1) := by decide +kernel
theorem dX2_readMove_83 : decode cX2_readMove 83 = .ok (.aload_n 0, 1) := by decide +kernel
theorem dX2_readMove_84 : decode cX2_readMove 84 = .ok (.getfield 39, 3) := by decide +kernel
theorem dX2_readMove_87 : decode cX2_readMove 87 = .ok (.invokevirtual 188, 3) := by decide +kernel
theorem dX2_readMove_90 : decode cX2_readMove 90 = .ok (.istore 4, 2) := by decide +kernel
theorem dX2_readMove_92 : decode cX2_readMove 92 = .ok (.iload 4, 2) := by decide +kernel
theorem dX2_readMove_94 : decode cX2_readMove 94 = .ok (.ifCond .ge 21, 3) := by decide +kernel
theorem dX2_readMove_97 : decode cX2_readMove 97 = .ok (.aload_n 0, 1) := by decide +kernel
theorem dX2_readMove_98 : decode cX2_readMove 98 = .ok (.iload 4, 2) := by decide +kernel
theorem dX2_readMove_100 : decode cX2_readMove 100 = .ok (.bipush (-2), 2) := by decide +kernel
theorem dX2_readMove_102 : decode cX2_readMove 102 = .ok (.if_icmp .ne 7, 3) := by decide +kernel
theorem dX2_readMove_105 : decode cX2_readMove 105 = .ok (.iconst 5, 1) := by decide +kernel
theorem dX2_readMove_106 : decode cX2_readMove 106 = .ok (.goto 4, 3) := by decide +kernel
theorem dX2_readMove_109 : decode cX2_readMove 109 = .ok (.iconst 4, 1) := by decide +kernel
theorem dX2_readMove_110 : decode cX2_readMove 110 = .ok (.iload_n 3, 1) := by decide +kernel
theorem dX2_readMove_111 : decode cX2_readMove 111 = .ok (.invokevirtual 99, 3) := by decide +kernel
theorem dX2_readMove_114 : decode cX2_readMove 114 = .ok (.ireturn, 1) := by decide +kernel
theorem dX2_readMove_115 : decode cX2_readMove 115 = .ok (.aload_n 0, 1) := by decide +kernel
theorem dX2_readMove_116 : decode cX2_readMove 116 = .ok (.getfield 35, 3) := by decide +kernel
theorem dX2_readMove_119 : decode cX2_readMove 119 = .ok (.aload_n 0, 1) := by decide +kernel
theorem dX2_readMove_120 : decode cX2_readMove 120 = .ok (.getfield 56, 3) := by decide +kernel
theorem dX2_readMove_123 : decode cX2_readMove 123 = .ok (.iload_n 1, 1) := by decide +kernel
theorem dX2_readMove_124 : decode cX2_readMove 124 = .ok (.iaload, 1) := by decide +kernel
theorem dX2_readMove_125 : decode cX2_readMove 125 = .ok (.iload 4, 2) := by decide +kernel
theorem dX2_readMove_127 : decode cX2_readMove 127 = .ok (.invokevirtual 192, 3) := by decide +kernel
theorem dX2_readMove_130 : decode cX2_readMove 130 = .ok (.iconst (-1), 1) := by decide +kernel
theorem dX2_readMove_131 : decode cX2_readMove 131 = .ok (.if_icmp .eq 11, 3) := by decide +kernel
theorem dX2_readMove_134 : decode cX2_readMove 134 = .ok (.aload_n 0, 1) := by decide +kernel
theorem dX2_readMove_135 : decode cX2_readMove 135 = .ok (.bipush 6, 2) := by decide +kernel
theorem dX2_readMove_137 : decode cX2_readMove 137 = .ok (.iload_n 3, 1) := by decide +kernel
theorem dX2_readMove_138 : decode cX2_readMove 138 = .ok (.invokevirtual 99, 3) := by decide +kernel
theorem dX2_readMove_141 : decode cX2_readMove 141 = .ok (.ireturn, 1) := by decide +kernel
theorem dX2_readMove_142 : decode cX2_readMove 142 = .ok (.aload_n 0, 1) := by decide +kernel
theorem dX2_readMove_143 : decode cX2_readMove 143 = .ok (.getfield 35, 3) := by decide +kernel
theorem dX2_readMove_146 : decode cX2_readMove 146 = .ok (.aload_n 0, 1) := by decide +kernel
theorem dX2_readMove_147 : decode cX2_readMove 147 = .ok (.getfield 56, 3) := by decide +kernel
theorem dX2_readMove_150 : decode cX2_readMove 150 = .ok (.iload_n 1, 1) := by decide +kernel
theorem dX2_readMove_151 : decode cX2_readMove 151 = .ok (.iaload, 1) := by decide +kernel
theorem dX2_readMove_152 : decode cX2_readMove 152 = .ok (.iload 4, 2) := by decide +kernel
theorem dX2_readMove_154 : decode cX2_readMove 154 = .ok (.invokevirtual 195, 3) := by decide +kernel
theorem dX2_readMove_157 : decode cX2_readMove 157 = .ok (.istore 5, 2) := by decide +kernel
theorem dX2_readMove_159 : decode cX2_readMove 159 = .ok (.iload 5, 2) := by decide +kernel
theorem dX2_readMove_161 : decode cX2_readMove 161 = .ok (.iconst (-1), 1) := by decide +kernel
theorem dX2_readMove_162 : decode cX2_readMove 162 = .ok (.if_icmp .ne 11, 3) := by decide +kernel
theorem dX2_readMove_165 : decode cX2_readMove 165 = .ok (.aload_n 0, 1) := by decide +kernel
theorem dX2_readMove_166 : decode cX2_readMove 166 = .ok (.bipush 8, 2) := by decide +kernel
theorem dX2_readMove_168 : decode cX2_readMove 168 = .ok (.iload_n 3, 1) := by decide +kernel
theorem dX2_readMove_169 : decode cX2_readMove 169 = .ok (.invokevirtual 99, 3) := by decide +kernel
theorem dX2_readMove_172 : decode cX2_readMove 172 = .ok (.ireturn, 1) := by decide +kernel
theorem dX2_readMove_173 : decode cX2_readMove 173 = .ok (.aload_n 0, 1) := by decide +kernel
theorem dX2_readMove_174 : decode cX2_readMove 174 = .ok (.getfield 56, 3) := by decide +kernel
theorem dX2_readMove_177 : decode cX2_readMove 177 = .ok (.iload_n 1, 1) := by decide +kernel
theorem dX2_readMove_178 : decode cX2_readMove 178 = .ok (.iload 5, 2) := by decide +kernel
theorem dX2_readMove_180 : decode cX2_readMove 180 = .ok (.iastore, 1) := by decide +kernel
theorem dX2_readMove_181 : decode cX2_readMove 181 = .ok (.aload_n 0, 1) := by decide +kernel
theorem dX2_readMove_182 : decode cX2_readMove 182 = .ok (.getfield 61, 3) := by decide +kernel
theorem dX2_readMove_185 : decode cX2_readMove 185 = .ok (.iload_n 1, 1) := by decide +kernel
theorem dX2_readMove_186 : decode cX2_readMove 186 = .ok (.aaload, 1) := by decide +kernel
theorem dX2_readMove_187 : decode cX2_readMove 187 = .ok (.aload_n 2, 1) := by decide +kernel
theorem dX2_readMove_188 : decode cX2_readMove 188 = .ok (.invokevirtual 162, 3) := by decide +kernel
theorem dX2_readMove_191 : decode cX2_readMove 191 = .ok (.aload_n 2, 1) := by decide +kernel
theorem dX2_readMove_192 : decode cX2_readMove 192 = .ok (.iload 4, 2) := by decide +kernel
theorem dX2_readMove_194 : decode cX2_readMove 194 = .ok (.invokevirtual 198, 3) := by decide +kernel
theorem dX2_readMove_197 : decode cX2_readMove 197 = .ok (.aload_n 0, 1) := by decide +kernel
theorem dX2_readMove_198 : decode cX2_readMove 198 = .ok (.aload_n 0, 1) := by decide +kernel
theorem dX2_readMove_199 : decode cX2_readMove 199 = .ok (.getfield 35, 3) := by decide +kernel
theorem dX2_readMove_202 : decode cX2_readMove 202 = .ok (.iload 5, 2) := by decide +kernel
theorem dX2_readMove_204 : decode cX2_readMove 204 = .ok (.invokevirtual 86, 3) := by decide +kernel
theorem dX2_readMove_207 : decode cX2_readMove 207 = .ok (.invokevirtual 201, 3) := by decide +kernel
theorem dX2_readMove_210 : decode cX2_readMove 210 = .ok (.ifCond .eq 23, 3) := by decide +kernel
theorem dX2_readMove_213 : decode cX2_readMove 213 = .ok (.aload_n 0, 1) := by decide +kernel
theorem dX2_readMove_214 : decode cX2_readMove 214 = .ok (.aload_n 0, 1) := by decide +kernel
theorem dX2_readMove_215 : decode cX2_readMove 215 = .ok (.getfield 35, 3) := by decide +kernel
theorem dX2_readMove_218 : decode cX2_readMove 218 = .ok (.iload 5, 2) := by decide +kernel
theorem dX2_readMove_220 : decode cX2_readMove 220 = .ok (.invokevirtual 86, 3) := by decide +kernel
theorem dX2_readMove_223 : decode cX2_readMove 223 = .ok (.invokevirtual 89, 3) := by decide +kernel
theorem dX2_readMove_226 : decode cX2_readMove 226 = .ok (.ifCond .eq 7, 3) := by decide +kernel
theorem dX2_readMove_229 : decode cX2_readMove 229 = .ok (.iconst 1, 1) := by decide +kernel
theorem dX2_readMove_230 : decode cX2_readMove 230 = .ok (.goto 4, 3) := by decide +kernel
theorem dX2_readMove_233 : decode cX2_readMove 233 = .ok (.iconst 0, 1) := by decide +kernel
theorem dX2_readMove_234 : decode cX2_readMove 234 = .ok (.ireturn, 1) := by decide +kernel
theorem dX2_readNumber_0 : decode cX2_readNumber 0 = .ok (.aload_n 0, 1) := by decide +kernel
theorem dX2_readNumber_1 : decode cX2_readNumber 1 = .ok (.getfield 39, 3) := by decide +kernel
theorem dX2_readNumber_4 : decode cX2_readNumber 4 = .ok (.istore_n 2, 1) := by decide +kernel
theorem dX2_readNumber_5 : decode cX2_readNumber 5 = .ok (.aload_n 0, 1) := by decide +kernel
theorem dX2_readNumber_6 : decode cX2_readNumber 6 = .ok (.iconst 4, 1) := by decide +kernel
theorem dX2_readNumber_7 : decode cX2_readNumber 7 = .ok (.invokevirtual 204, 3) := by decide +kernel
theorem dX2_readNumber_10 : decode cX2_readNumber 10 = .ok (.istore_n 3, 1) := by decide +kernel
theorem dX2_readNumber_11 : decode cX2_readNumber 11 = .ok (.aload_n 0, 1) := by decide +kernel
theorem dX2_readNumber_12 : decode cX2_readNumber 12 = .ok (.getfield 39, 3) := by decide +kernel
theorem dX2_readNumber_15 : decode cX2_readNumber 15 = .ok (.aload_n 0, 1) := by decide +kernel
theorem dX2_readNumber_16 : decode cX2_readNumber 16 = .ok (.getfield 28, 3) := by decide +kernel
theorem dX2_readNumber_19 : decode cX2_readNumber 19 = .ok (.invokevirtual 72, 3) := by decide +kernel
theorem dX2_readNumber_22 : decode cX2_readNumber 22 = .ok (.if_icmp .ge 32, 3) := by decide +kernel
theorem dX2_readNumber_25 : decode cX2_readNumber 25 = .ok (.aload_n 0, 1) := by decide +kernel
theorem dX2_readNumber_26 : decode cX2_readNumber 26 = .ok (.getfield 28, 3) := by decide +kernel
theorem dX2_readNumber_29 : decode cX2_readNumber 29 = .ok (.aload_n 0, 1) := by decide +kernel
theorem dX2_readNumber_30 : decode cX2_readNumber 30 = .ok (.getfield 39, 3) := by decide +kernel
theorem dX2_readNumber_33 : decode cX2_readNumber 33 = .ok (.invokevirtual 76, 3) := by decide +kernel
theorem dX2_readNumber_36 : decode cX2_readNumber 36 = .ok (.bipush 46, 2) := by decide +kernel
theorem dX2_readNumber_38 : decode cX2_readNumber 38 = .ok (.if_icmp .ne 16, 3) := by decide +kernel
theorem dX2_readNumber_41 : decode cX2_readNumber 41 = .ok (.aload_n 0, 1) := by decide +kernel
theorem dX2_readNumber_42 : decode cX2_readNumber 42 = .ok (.dup, 1) := by decide +kernel
theorem dX2_readNumber_43 : decode cX2_readNumber 43 = .ok (.getfield 39, 3) := by decide +kernel
theorem dX2_readNumber_46 : decode cX2_readNumber 46 = .ok (.iconst 1, 1) := by decide +kernel
theorem dX2_readNumber_47 : decode cX2_readNumber 47 = .ok (.iadd, 1) := by decide +kernel
theorem dX2_readNumber_48 : decode cX2_readNumber 48 = .ok (.putfield 39, 3) := by decide +kernel
theorem dX2_readNumber_51 : decode cX2_readNumber 51 = .ok (.goto (-40), 3) := by decide +kernel
theorem dX2_readNumber_54 : decode cX2_readNumber 54 = .ok (.aload_n 0, 1) := by decide +kernel
theorem dX2_readNumber_55 : decode cX2_readNumber 55 = .ok (.invokevirtual 79, 3) := by decide +kernel
theorem dX2_readNumber_58 : decode cX2_readNumber 58 = .ok (.iload_n 3, 1) := by decide +kernel
theorem dX2_readNumber_59 : decode cX2_readNumber 59 = .ok (.iload_n 1, 1) := by decide +kernel
theorem dX2_readNumber_60 : decode cX2_readNumber 60 = .ok (.if_icmp .eq 13, 3) := by decide +kernel
theorem dX2_readNumber_63 : decode cX2_readNumber 63 = .ok (.aload_n 0, 1) := by decide +kernel
theorem dX2_readNumber_64 : decode cX2_readNumber 64 = .ok (.bipush 7, 2) := by decide +kernel
theorem dX2_readNumber_66 : decode cX2_readNumber 66 = .ok (.iload_n 2, 1) := by decide +kernel
theorem dX2_readNumber_67 : decode cX2_readNumber 67 = .ok (.invokevirtual 99, 3) := by decide +kernel
theorem dX2_readNumber_70 : decode cX2_readNumber 70 = .ok (.ifCond .eq 7, 3) := by decide +kernel
theorem dX2_readNumber_73 : decode cX2_readNumber 73 = .ok (.iconst 1, 1) := by decide +kernel
theorem dX2_readNumber_74 : decode cX2_readNumber 74 = .ok (.goto 4, 3) := by decide +kernel
theorem dX2_readNumber_77 : decode cX2_readNumber 77 = .ok (.iconst 0, 1) := by decide +kernel
theorem dX2_readNumber_78 : decode cX2_readNumber 78 = .ok (.ireturn, 1) := by decide +kernel
theorem dX2_readDigits_0 : decode cX2_readDigits 0 = .ok (.aload_n 0, 1) := by decide +kernel
theorem dX2_readDigits_1 : decode cX2_readDigits 1 = .ok (.getfield 39, 3) := by decide +kernel
theorem dX2_readDigits_4 : decode cX2_readDigits 4 = .ok (.iload_n 1, 1) := by decide +kernel
theorem dX2_readDigits_5 : decode cX2_readDigits 5 = .ok (.iadd, 1) := by decide +kernel
theorem dX2_readDigits_6 : decode cX2_readDigits 6 = .ok (.istore_n 2, 1) := by decide +kernel
theorem dX2_readDigits_7 : decode cX2_readDigits 7 = .ok (.iconst 0, 1) := by decide +kernel
theorem dX2_readDigits_8 : decode cX2_readDigits 8 = .ok (.istore_n 3, 1) := by decide +kernel
theorem dX2_readDigits_9 : decode cX2_readDigits 9 = .ok (.aload_n 0, 1) := by decide +kernel
theorem dX2_readDigits_10 : decode cX2_readDigits 10 = .ok (.getfield 39, 3) := by decide +kernel
theorem dX2_readDigits_13 : decode cX2_readDigits 13 = .ok (.iload_n 2, 1) := by decide +kernel
theorem dX2_readDigits_14 : decode cX2_readDigits 14 = .ok (.if_icmp .ge 53, 3) := by decide +kernel
theorem dX2_readDigits_17 : decode cX2_readDigits 17 = .ok (.aload_n 0, 1) := by decide +kernel
theorem dX2_readDigits_18 : decode cX2_readDigits 18 = .ok (.getfield 28, 3) := by decide +kernel
theorem dX2_readDigits_21 : decode cX2_readDigits 21 = .ok (.aload_n 0, 1) := by decide +kernel
theorem dX2_readDigits_22 : decode cX2_readDigits 22 = .ok (.getfield 39, 3) := by decide +kernel
theorem dX2_readDigits_25 : decode cX2_readDigits 25 = .ok (.invokevirtual 76, 3) := by decide +kernel
theorem dX2_readDigits_28 : decode cX2_readDigits 28 = .ok (.invokestatic 136, 3) := by decide +kernel
theorem dX2_readDigits_31 : decode cX2_readDigits 31 = .ok (.ifCond .eq 36, 3) := by decide +kernel
theorem dX2_readDigits_34 : decode cX2_readDigits 34 = .ok (.bipush 10, 2) := by decide +kernel
theorem dX2_readDigits_36 : decode cX2_readDigits 36 = .ok (.iload_n 3, 1) := by decide +kernel
theorem dX2_readDigits_37 : decode cX2_readDigits 37 = .ok (.imul, 1) := by decide +kernel
theorem dX2_readDigits_38 : decode cX2_readDigits 38 = .ok (.aload_n 0, 1) := by decide +kernel
theorem dX2_readDigits_39 : decode cX2_readDigits 39 = .ok (.getfield 28, 3) := by decide +kernel
theorem dX2_readDigits_42 : decode cX2_readDigits 42 = .ok (.aload_n 0, 1) := by decide +kernel
theorem dX2_readDigits_43 : decode cX2_readDigits 43 = .ok (.getfield 39, 3) := by decide +kernel
theorem dX2_readDigits_46 : decode cX2_readDigits 46 = .ok (.invokevirtual 76, 3) := by decide +kernel
theorem dX2_readDigits_49 : decode cX2_readDigits 49 = .ok (.iadd, 1) := by decide +kernel
theorem dX2_readDigits_50 : decode cX2_readDigits 50 = .ok (.bipush 48, 2) := by decide +kernel
theorem dX2_readDigits_52 : decode cX2_readDigits 52 = .ok (.isub, 1) := by decide +kernel
theorem dX2_readDigits_53 : decode cX2_readDigits 53 = .ok (.istore_n 3, 1) := by decide +kernel
theorem dX2_readDigits_54 : decode cX2_readDigits 54 = .ok (.aload_n 0, 1) := by decide +kernel
theorem dX2_readDigits_55 : decode cX2_readDigits 55 = .ok (.dup, 1) := by decide +kernel
theorem dX2_readDigits_56 : decode cX2_readDigits 56 = .ok (.getfield 39, 3) := by decide +kernel
theorem dX2_readDigits_59 : decode cX2_readDigits 59 = .ok (.iconst 1, 1) := by decide +kernel
theorem dX2_readDigits_60 : decode cX2_readDigits 60 = .ok (.iadd, 1) := by decide +kernel
theorem dX2_readDigits_61 : decode cX2_readDigits 61 = .ok (.putfield 39, 3) := by decide +kernel
theorem dX2_readDigits_64 : decode cX2_readDigits 64 = .ok (.goto (-55), 3) := by decide +kernel
theorem dX2_readDigits_67 : decode cX2_readDigits 67 = .ok (.iload_n 3, 1) := by decide +kernel
theorem dX2_readDigits_68 : decode cX2_readDigits 68 = .ok (.ireturn, 1) := by decide +kernel
theorem dX2_skipSigns_0 : decode cX2_skipSigns 0 = .ok (.aload_n 0, 1) := by decide +kernel
theorem dX2_skipSigns_1 : decode cX2_skipSigns 1 = .ok (.getfield 39, 3) := by decide +kernel
theorem dX2_skipSigns_4 : decode cX2_skipSigns 4 = .ok (.aload_n 0, 1) := by decide +kernel
theorem dX2_skipSigns_5 : decode cX2_skipSigns 5 = .ok (.getfield 28, 3) := by decide +kernel
theorem dX2_skipSigns_8 : decode cX2_skipSigns 8 = .ok (.invokevirtual 72, 3) := by decide +kernel
theorem dX2_skipSigns_11 : decode cX2_skipSigns 11 = .ok (.if_icmp .ge 33, 3) := by decide +kernel
theorem dX2_skipSigns_14 : decode cX2_skipSigns 14 = .ok (.aload_n 0, 1) := by decide +kernel
theorem dX2_skipSigns_15 : decode cX2_skipSigns 15 = .ok (.getfield 28, 3) := by decide +kernel
theorem dX2_skipSigns_18 : decode cX2_skipSigns 18 = .ok (.aload_n 0, 1) := by decide +kernel
theorem dX2_skipSigns_19 : decode cX2_skipSigns 19 = .ok (.getfield 39, 3) := by decide +kernel
theorem dX2_skipSigns_22 : decode cX2_skipSigns 22 = .ok (.invokevirtual 76, 3) := by decide +kernel
theorem dX2_skipSigns_25 : decode cX2_skipSigns 25 = .ok (.invokestatic 208, 3) := by decide +kernel
theorem dX2_skipSigns_28 : decode cX2_skipSigns 28 = .ok (.ifCond .eq 16, 3) := by decide +kernel
theorem dX2_skipSigns_31 : decode cX2_skipSigns 31 = .ok (.aload_n 0, 1) := by decide +kernel
theorem dX2_skipSigns_32 : decode cX2_skipSigns 32 = .ok (.dup, 1) := by decide +kernel
theorem dX2_skipSigns_33 : decode cX2_skipSigns 33 = .ok (.getfield 39, 3) := by decide +kernel
theorem dX2_skipSigns_36 : decode cX2_skipSigns 36 = .ok (.iconst 1, 1) := by decide +kernel
theorem dX2_skipSigns_37 : decode cX2_skipSigns 37 = .ok (.iadd, 1) := by decide +kernel
theorem dX2_skipSigns_38 : decode cX2_skipSigns 38 = .ok (.putfield 39, 3) := by decide +kernel
theorem dX2_skipSigns_41 : decode cX2_skipSigns 41 = .ok (.goto (-41), 3) := by decide +kernel
theorem dX2_skipSigns_44 : decode cX2_skipSigns 44 = .ok (.return_, 1) := by decide +kernel
theorem dX2_isSign_0 : decode cX2_isSign 0 = .ok (.iload_n 0, 1) := by decide +kernel
theorem dX2_isSign_1 : decode cX2_isSign 1 = .ok (.invokestatic 132, 3) := by decide +kernel
theorem dX2_isSign_4 : decode cX2_isSign 4 = .ok (.ifCond .ne 34, 3) := by decide +kernel
theorem dX2_isSign_7 : decode cX2_isSign 7 = .ok (.iload_n 0, 1) := by decide +kernel
theorem dX2_isSign_8 : decode cX2_isSign 8 = .ok (.invokestatic 136, 3) := by decide +kernel
theorem dX2_isSign_11 : decode cX2_isSign 11 = .ok (.ifCond .ne 27, 3) := by decide +kernel
theorem dX2_isSign_14 : decode cX2_isSign 14 = .ok (.iload_n 0, 1) := by decide +kernel
theorem dX2_isSign_15 : decode cX2_isSign 15 = .ok (.bipush 61, 2) := by decide +kernel
theorem dX2_isSign_17 : decode cX2_isSign 17 = .ok (.if_icmp .eq 21, 3) := by decide +kernel
theorem dX2_isSign_20 : decode cX2_isSign 20 = .ok (.iload_n 0, 1) := by decide +kernel
theorem dX2_isSign_21 : decode cX2_isSign 21 = .ok (.bipush 45, 2) := by decide +kernel
theorem dX2_isSign_23 : decode cX2_isSign 23 = .ok (.if_icmp .eq 15, 3) := by decide +kernel
theorem dX2_isSign_26 : decode cX2_isSign 26 = .ok (.iload_n 0, 1) := by decide +kernel
theorem dX2_isSign_27 : decode cX2_isSign 27 = .ok (.bipush 43, 2) := by decide +kernel
theorem dX2_isSign_29 : decode cX2_isSign 29 = .ok (.if_icmp .eq 9, 3) := by decide +kernel
theorem dX2_isSign_32 : decode cX2_isSign 32 = .ok (.iload_n 0, 1) := by decide +kernel
theorem dX2_isSign_33 : decode cX2_isSign 33 = .ok (.bipush 35, 2) := by decide +kernel
theorem dX2_isSign_35 : decode cX2_isSign 35 = .ok (.if_icmp .ne 7, 3) := by decide +kernel
theorem dX2_isSign_38 : decode cX2_isSign 38 = .ok (.iconst 1, 1) := by decide +kernel
theorem dX2_isSign_39 : decode cX2_isSign 39 = .ok (.goto 4, 3) := by decide +kernel
theorem dX2_isSign_42 : decode cX2_isSign 42 = .ok (.iconst 0, 1) := by decide +kernel
theorem dX2_isSign_43 : decode cX2_isSign 43 = .ok (.ireturn, 1) := by decide +kernel
theorem dX2_readMarks_0 : decode cX2_readMarks 0 = .ok (.aload_n 0, 1) := by decide +kernel
theorem dX2_readMarks_1 : decode cX2_readMarks 1 = .ok (.invokevirtual 79, 3) := by decide +kernel
theorem dX2_readMarks_4 : decode cX2_readMarks 4 = .ok (.aload_n 0, 1) := by decide +kernel
theorem dX2_readMarks_5 : decode cX2_readMarks 5 = .ok (.getfield 28, 3) := by decide +kernel
theorem dX2_readMarks_8 : decode cX2_readMarks 8 = .ok (.aload_n 0, 1) := by decide +kernel
theorem dX2_readMarks_9 : decode cX2_readMarks 9 = .ok (.getfield 39, 3) := by decide +kernel
theorem dX2_readMarks_12 : decode cX2_readMarks 12 = .ok (.invokevirtual 76, 3) := by decide +kernel
theorem dX2_readMarks_15 : decode cX2_readMarks 15 = .ok (.aload_n 0, 1) := by decide +kernel
theorem dX2_readMarks_16 : decode cX2_readMarks 16 = .ok (.getfield 28, 3) := by decide +kernel
theorem dX2_readMarks_19 : decode cX2_readMarks 19 = .ok (.aload_n 0, 1) := by decide +kernel
theorem dX2_readMarks_20 : decode cX2_readMarks 20 = .ok (.getfield 39, 3) := by decide +kernel
theorem dX2_readMarks_23 : decode cX2_readMarks 23 = .ok (.iconst 1, 1) := by decide +kernel
theorem dX2_readMarks_24 : decode cX2_readMarks 24 = .ok (.iadd, 1) := by decide +kernel
theorem dX2_readMarks_25 : decode cX2_readMarks 25 = .ok (.invokevirtual 76, 3) := by decide +kernel
theorem dX2_readMarks_28 : decode cX2_readMarks 28 = .ok (.invokestatic 211, 3) := by decide +kernel
theorem dX2_readMarks_31 : decode cX2_readMarks 31 = .ok (.istore_n 2, 1) := by decide +kernel
theorem dX2_readMarks_32 : decode cX2_readMarks 32 = .ok (.iload_n 2, 1) := by decide +kernel
theorem dX2_readMarks_33 : decode cX2_readMarks 33 = .ok (.ifCond .le 31, 3) := by decide +kernel
theorem dX2_readMarks_36 : decode cX2_readMarks 36 = .ok (.aload_n 1, 1) := by decide +kernel
theorem dX2_readMarks_37 : decode cX2_readMarks 37 = .ok (.iload_n 2, 1) := by decide +kernel
theorem dX2_readMarks_38 : decode cX2_readMarks 38 = .ok (.invokevirtual 215, 3) := by decide +kernel
theorem dX2_readMarks_41 : decode cX2_readMarks 41 = .ok (.aload_n 0, 1) := by decide +kernel
theorem dX2_readMarks_42 : decode cX2_readMarks 42 = .ok (.dup, 1) := by decide +kernel
theorem dX2_readMarks_43 : decode cX2_readMarks 43 = .ok (.getfield 39, 3) := by decide +kernel
theorem dX2_readMarks_46 : decode cX2_readMarks 46 = .ok (.iload_n 2, 1) := by decide +kernel
theorem dX2_readMarks_47 : decode cX2_readMarks 47 = .ok (.iconst 2, 1) := by decide +kernel
theorem dX2_readMarks_48 : decode cX2_readMarks 48 = .ok (.if_icmp .le 7, 3) := by decide +kernel
theorem dX2_readMarks_51 : decode cX2_readMarks 51 = .ok (.iconst 2, 1) := by decide +kernel
theorem dX2_readMarks_52 : decode cX2_readMarks 52 = .ok (.goto 4, 3) := by decide +kernel
theorem dX2_readMarks_55 : decode cX2_readMarks 55 = .ok (.iconst 1, 1) := by decide +kernel
theorem dX2_readMarks_56 : decode cX2_readMarks 56 = .ok (.iadd, 1) := by decide +kernel
theorem dX2_readMarks_57 : decode cX2_readMarks 57 = .ok (.putfield 39, 3) := by decide +kernel
theorem dX2_readMarks_60 : decode cX2_readMarks 60 = .ok (.aload_n 0, 1) := by decide +kernel
theorem dX2_readMarks_61 : decode cX2_readMarks 61 = .ok (.invokevirtual 79, 3) := by decide +kernel
theorem dX2_readMarks_64 : decode cX2_readMarks 64 = .ok (.iconst 1, 1) := by decide +kernel
theorem dX2_readMarks_65 : decode cX2_readMarks 65 = .ok (.istore_n 3, 1) := by decide +kernel
theorem dX2_readMarks_66 : decode cX2_readMarks 66 = .ok (.iconst 0, 1) := by decide +kernel
theorem dX2_readMarks_67 : decode cX2_readMarks 67 = .ok (.istore 4, 2) := by decide +kernel
theorem dX2_readMarks_69 : decode cX2_readMarks 69 = .ok (.iload 4, 2) := by decide +kernel
theorem dX2_readMarks_71 : decode cX2_readMarks 71 = .ok (.sipush 2000, 3) := by decide +kernel
theorem dX2_readMarks_74 : decode cX2_readMarks 74 = .ok (.if_icmp .ge 39, 3) := by decide +kernel
theorem dX2_readMarks_77 : decode cX2_readMarks 77 = .ok (.iload_n 3, 1) := by decide +kernel
theorem dX2_readMarks_78 : decode cX2_readMarks 78 = .ok (.ifCond .eq 35, 3) := by decide +kernel
theorem dX2_readMarks_81 : decode cX2_readMarks 81 = .ok (.aload_n 0, 1) := by decide +kernel
theorem dX2_readMarks_82 : decode cX2_readMarks 82 = .ok (.getfield 28, 3) := by decide +kernel
theorem dX2_readMarks_85 : decode cX2_readMarks 85 = .ok (.aload_n 0, 1) := by decide +kernel
theorem dX2_readMarks_86 : decode cX2_readMarks 86 = .ok (.getfield 39, 3) := by decide +kernel
theorem dX2_readMarks_89 : decode cX2_readMarks 89 = .ok (.invokevirtual 76, 3) := by decide +kernel
theorem dX2_readMarks_92 : decode cX2_readMarks 92 = .ok (.bipush 36, 2) := by decide +kernel
theorem dX2_readMarks_94 : decode cX2_readMarks 94 = .ok (.if_icmp .ne 19, 3) := by decide +kernel
theorem dX2_readMarks_97 : decode cX2_readMarks 97 = .ok (.aload_n 0, 1) := by decide +kernel
theorem dX2_readMarks_98 : decode cX2_readMarks 98 = .ok (.aload_n 1, 1) := by decide +kernel
theorem dX2_readMarks_99 : decode cX2_readMarks 99 = .ok (.invokevirtual 218, 3) := by decide +kernel
theorem dX2_readMarks_102 : decode cX2_readMarks 102 = .ok (.istore_n 3, 1) := by decide +kernel
theorem dX2_readMarks_103 : decode cX2_readMarks 103 = .ok (.aload_n 0, 1) := by decide +kernel
theorem dX2_readMarks_104 : decode cX2_readMarks 104 = .ok (.invokevirtual 79, 3) := by decide +kernel
theorem dX2_readMarks_107 : decode cX2_readMarks 107 = .ok (.iinc 4 1, 3) := by decide +kernel
theorem dX2_readMarks_110 : decode cX2_readMarks 110 = .ok (.goto (-41), 3) := by decide +kernel
theorem dX2_readMarks_113 : decode cX2_readMarks 113 = .ok (.iload_n 3, 1) := by decide +kernel
theorem dX2_readMarks_114 : decode cX2_readMarks 114 = .ok (.ireturn, 1) := by decide +kernel
theorem dX2_shortMark_0 : decode cX2_shortMark 0 = .ok (.iload_n 0, 1) := by decide +kernel
theorem dX2_shortMark_1 : decode cX2_shortMark 1 = .ok (.bipush 33, 2) := by decide +kernel
theorem dX2_shortMark_3 : decode cX2_shortMark 3 = .ok (.if_icmp .ne 25, 3) := by decide +kernel
theorem dX2_shortMark_6 : decode cX2_shortMark 6 = .ok (.iload_n 1, 1) := by decide +kernel
theorem dX2_shortMark_7 : decode cX2_shortMark 7 = .ok (.bipush 33, 2) := by decide +kernel
theorem dX2_shortMark_9 : decode cX2_shortMark 9 = .ok (.if_icmp .ne 7, 3) := by decide +kernel
theorem dX2_shortMark_12 : decode cX2_shortMark 12 = .ok (.iconst 3, 1) := by decide +kernel
theorem dX2_shortMark_13 : decode cX2_shortMark 13 = .ok (.goto 14, 3) := by decide +kernel
theorem dX2_shortMark_16 : decode cX2_shortMark 16 = .ok (.iload_n 1, 1) := by decide +kernel
theorem dX2_shortMark_17 : decode cX2_shortMark 17 = .ok (.bipush 63, 2) := by decide +kernel
theorem dX2_shortMark_19 : decode cX2_shortMark 19 = .ok (.if_icmp .ne 7, 3) := by decide +kernel
theorem dX2_shortMark_22 : decode cX2_shortMark 22 = .ok (.iconst 5, 1) := by decide +kernel
theorem dX2_shortMark_23 : decode cX2_shortMark 23 = .ok (.goto 4, 3) := by decide +kernel
theorem dX2_shortMark_26 : decode cX2_shortMark 26 = .ok (.iconst 1, 1) := by decide +kernel
theorem dX2_shortMark_27 : decode cX2_shortMark 27 = .ok (.ireturn, 1) := by decide +kernel
theorem dX2_shortMark_28 : decode cX2_shortMark 28 = .ok (.iload_n 0, 1) := by decide +kernel
theorem dX2_shortMark_29 : decode cX2_shortMark 29 = .ok (.bipush 63, 2) := by decide +kernel
theorem dX2_shortMark_31 : decode cX2_shortMark 31 = .ok (.if_icmp .ne 26, 3) := by decide +kernel
theorem dX2_shortMark_34 : decode cX2_shortMark 34 = .ok (.iload_n 1, 1) := by decide +kernel
theorem dX2_shortMark_35 : decode cX2_shortMark 35 = .ok (.bipush 63, 2) := by decide +kernel
theorem dX2_shortMark_37 : decode cX2_shortMark 37 = .ok (.if_icmp .ne 7, 3) := by decide +kernel
theorem dX2_shortMark_40 : decode cX2_shortMark 40 = .ok (.iconst 4, 1) := by decide +kernel
theorem dX2_shortMark_41 : decode cX2_shortMark 41 = .ok (.goto 15, 3) := by decide +kernel
theorem dX2_shortMark_44 : decode cX2_shortMark 44 = .ok (.iload_n 1, 1) := by decide +kernel
theorem dX2_shortMark_45 : decode cX2_shortMark 45 = .ok (.bipush 33, 2) := by decide +kernel
theorem dX2_shortMark_47 : decode cX2_shortMark 47 = .ok (.if_icmp .ne 8, 3) := by decide +kernel
theorem dX2_shortMark_50 : decode cX2_shortMark 50 = .ok (.bipush 6, 2) := by decide +kernel
theorem dX2_shortMark_52 : decode cX2_shortMark 52 = .ok (.goto 4, 3) := by decide +kernel
theorem dX2_shortMark_55 : decode cX2_shortMark 55 = .ok (.iconst 2, 1) := by decide +kernel
theorem dX2_shortMark_56 : decode cX2_shortMark 56 = .ok (.ireturn, 1) := by decide +kernel
theorem dX2_shortMark_57 : decode cX2_shortMark 57 = .ok (.iconst 0, 1) := by decide +kernel
theorem dX2_shortMark_58 : decode cX2_shortMark 58 = .ok (.ireturn, 1) := by decide +kernel
theorem dX2_readMark_0 : decode cX2_readMark 0 = .ok (.aload_n 0, 1) := by decide +kernel
theorem dX2_readMark_1 : decode cX2_readMark 1 = .ok (.getfield 39, 3) := by decide +kernel
theorem dX2_readMark_4 : decode cX2_readMark 4 = .ok (.istore_n 2, 1) := by decide +kernel
theorem dX2_readMark_5 : decode cX2_readMark 5 = .ok (.aload_n 0, 1) := by decide +kernel
theorem dX2_readMark_6 : decode cX2_readMark 6 = .ok (.dup, 1) := by decide +kernel
theorem dX2_readMark_7 : decode cX2_readMark 7 = .ok (.getfield 39, 3) := by decide +kernel
theorem dX2_readMark_10 : decode cX2_readMark 10 = .ok (.iconst 1, 1) := by decide +kernel
theorem dX2_readMark_11 : decode cX2_readMark 11 = .ok (.iadd, 1) := by decide +kernel
theorem dX2_readMark_12 : decode cX2_readMark 12 = .ok (.putfield 39, 3) := by decide +kernel
theorem dX2_readMark_15 : decode cX2_readMark 15 = .ok (.aload_n 0, 1) := by decide +kernel
theorem dX2_readMark_16 : decode cX2_readMark 16 = .ok (.iconst 3, 1) := by decide +kernel
theorem dX2_readMark_17 : decode cX2_readMark 17 = .ok (.invokevirtual 204, 3) := by decide +kernel
theorem dX2_readMark_20 : decode cX2_readMark 20 = .ok (.istore_n 3, 1) := by decide +kernel
theorem dX2_readMark_21 : decode cX2_readMark 21 = .ok (.aload_n 0, 1) := by decide +kernel
theorem dX2_readMark_22 : decode cX2_readMark 22 = .ok (.getfield 39, 3) := by decide +kernel
theorem dX2_readMark_25 : decode cX2_readMark 25 = .ok (.iload_n 2, 1) := by decide +kernel
theorem dX2_readMark_26 : decode cX2_readMark 26 = .ok (.iconst 1, 1) := by decide +kernel
theorem dX2_readMark_27 : decode cX2_readMark 27 = .ok (.iadd, 1) := by decide +kernel
theorem dX2_readMark_28 : decode cX2_readMark 28 = .ok (.if_icmp .ne 13, 3) := by decide +kernel
theorem dX2_readMark_31 : decode cX2_readMark 31 = .ok (.aload_n 0, 1) := by decide +kernel
theorem dX2_readMark_32 : decode cX2_readMark 32 = .ok (.iconst 1, 1) := by decide +kernel
theorem dX2_readMark_33 : decode cX2_readMark 33 = .ok (.aload_n 0, 1) := by decide +kernel
theorem dX2_readMark_34 : decode cX2_readMark 34 = .ok (.getfield 39, 3) := by decide +kernel
theorem dX2_readMark_37 : decode cX2_readMark 37 = .ok (.invokevirtual 99, 3) := by decide +kernel
theorem dX2_readMark_40 : decode cX2_readMark 40 = .ok (.ireturn, 1) := by decide +kernel
theorem dX2_readMark_41 : decode cX2_readMark 41 = .ok (.iload_n 3, 1) := by decide +kernel
theorem dX2_readMark_42 : decode cX2_readMark 42 = .ok (.sipush 255, 3) := by decide +kernel
theorem dX2_readMark_45 : decode cX2_readMark 45 = .ok (.if_icmp .gt 11, 3) := by decide +kernel
theorem dX2_readMark_48 : decode cX2_readMark 48 = .ok (.aload_n 1, 1) := by decide +kernel
theorem dX2_readMark_49 : decode cX2_readMark 49 = .ok (.getfield 221, 3) := by decide +kernel
theorem dX2_readMark_52 : decode cX2_readMark 52 = .ok (.iconst 4, 1) := by decide +kernel
theorem dX2_readMark_53 : decode cX2_readMark 53 = .ok (.if_icmp .lt 11, 3) := by decide +kernel
theorem dX2_readMark_56 : decode cX2_readMark 56 = .ok (.aload_n 0, 1) := by decide +kernel
theorem dX2_readMark_57 : decode cX2_readMark 57 = .ok (.bipush 8, 2) := by decide +kernel
theorem dX2_readMark_59 : decode cX2_readMark 59 = .ok (.iload_n 2, 1) := by decide +kernel
theorem dX2_readMark_60 : decode cX2_readMark 60 = .ok (.invokevirtual 99, 3) := by decide +kernel
theorem dX2_readMark_63 : decode cX2_readMark 63 = .ok (.ireturn, 1) := by decide +kernel
theorem dX2_readMark_64 : decode cX2_readMark 64 = .ok (.aload_n 0, 1) := by decide +kernel
theorem dX2_readMark_65 : decode cX2_readMark 65 = .ok (.getfield 28, 3) := by decide +kernel
theorem dX2_readMark_68 : decode cX2_readMark 68 = .ok (.aload_n 0, 1) := by decide +kernel
theorem dX2_readMark_69 : decode cX2_readMark 69 = .ok (.getfield 39, 3) := by decide +kernel
theorem dX2_readMark_72 : decode cX2_readMark 72 = .ok (.invokevirtual 76, 3) := by decide +kernel
theorem dX2_readMark_75 : decode cX2_readMark 75 = .ok (.invokestatic 136, 3) := by decide +kernel
theorem dX2_readMark_78 : decode cX2_readMark 78 = .ok (.ifCond .eq 13, 3) := by decide +kernel
theorem dX2_readMark_81 : decode cX2_readMark 81 = .ok (.aload_n 0, 1) := by decide +kernel
theorem dX2_readMark_82 : decode cX2_readMark 82 = .ok (.iconst 1, 1) := by decide +kernel
theorem dX2_readMark_83 : decode cX2_readMark 83 = .ok (.aload_n 0, 1) := by decide +kernel
theorem dX2_readMark_84 : decode cX2_readMark 84 = .ok (.getfield 39, 3) := by decide +kernel
theorem dX2_readMark_87 : decode cX2_readMark 87 = .ok (.invokevirtual 99, 3) := by decide +kernel
theorem dX2_readMark_90 : decode cX2_readMark 90 = .ok (.ireturn, 1) := by decide +kernel
theorem dX2_readMark_91 : decode cX2_readMark 91 = .ok (.aload_n 1, 1) := by decide +kernel
theorem dX2_readMark_92 : decode cX2_readMark 92 = .ok (.iload_n 3, 1) := by decide +kernel
theorem dX2_readMark_93 : decode cX2_readMark 93 = .ok (.invokevirtual 215, 3) := by decide +kernel
theorem dX2_readMark_96 : decode cX2_readMark 96 = .ok (.iconst 1, 1) := by decide +kernel
theorem dX2_readMark_97 : decode cX2_readMark 97 = .ok (.ireturn, 1) := by decide +kernel
theorem dX2_resultHere_0 : decode cX2_resultHere 0 = .ok (.iconst 0, 1) := by decide +kernel
theorem dX2_resultHere_1 : decode cX2_resultHere 1 = .ok (.istore_n 1, 1) := by decide +kernel
theorem dX2_resultHere_2 : decode cX2_resultHere 2 = .ok (.iload_n 1, 1) := by decide +kernel
theorem dX2_resultHere_3 : decode cX2_resultHere 3 = .ok (.iconst 4, 1) := by decide +kernel
theorem dX2_resultHere_4 : decode cX2_resultHere 4 = .ok (.if_icmp .ge 29, 3) := by decide +kernel
theorem dX2_resultHere_7 : decode cX2_resultHere 7 = .ok (.aload_n 0, 1) := by decide +kernel
theorem dX2_resultHere_8 : decode cX2_resultHere 8 = .ok (.getfield 28, 3) := by decide +kernel
theorem dX2_resultHere_11 : decode cX2_resultHere 11 = .ok (.iload_n 1, 1) := by decide +kernel
theorem dX2_resultHere_12 : decode cX2_resultHere 12 = .ok (.invokestatic 224, 3) := by decide +kernel
theorem dX2_resultHere_15 : decode cX2_resultHere 15 = .ok (.aload_n 0, 1) := by decide +kernel
theorem dX2_resultHere_16 : decode cX2_resultHere 16 = .ok (.getfield 39, 3) := by decide +kernel
theorem dX2_resultHere_19 : decode cX2_resultHere 19 = .ok (.invokevirtual 228, 3) := by decide +kernel
theorem dX2_resultHere_22 : decode cX2_resultHere 22 = .ok (.ifCond .eq 5, 3) := by decide +kernel
theorem dX2_resultHere_25 : decode cX2_resultHere 25 = .ok (.iload_n 1, 1) := by decide +kernel
theorem dX2_resultHere_26 : decode cX2_resultHere 26 = .ok (.ireturn, 1) := by decide +kernel
theorem dX2_resultHere_27 : decode cX2_resultHere 27 = .ok (.iinc 1 1, 3) := by decide +kernel
theorem dX2_resultHere_30 : decode cX2_resultHere 30 = .ok (.goto (-28), 3) := by decide +kernel
theorem dX2_resultHere_33 : decode cX2_resultHere 33 = .ok (.iconst (-1), 1) := by decide +kernel
theorem dX2_resultHere_34 : decode cX2_resultHere 34 = .ok (.ireturn, 1) := by decide +kernel
theorem dX2_readEnd_0 : decode cX2_readEnd 0 = .ok (.aload_n 0, 1) := by decide +kernel
theorem dX2_readEnd_1 : decode cX2_readEnd 1 = .ok (.invokevirtual 166, 3) := by decide +kernel
theorem dX2_readEnd_4 : decode cX2_readEnd 4 = .ok (.istore_n 1, 1) := by decide +kernel
theorem dX2_readEnd_5 : decode cX2_readEnd 5 = .ok (.aload_n 0, 1) := by decide +kernel
theorem dX2_readEnd_6 : decode cX2_readEnd 6 = .ok (.getfield 35, 3) := by decide +kernel
theorem dX2_readEnd_9 : decode cX2_readEnd 9 = .ok (.iload_n 1, 1) := by decide +kernel
theorem dX2_readEnd_10 : decode cX2_readEnd 10 = .ok (.invokevirtual 232, 3) := by decide +kernel
theorem dX2_readEnd_13 : decode cX2_readEnd 13 = .ok (.ifCond .ne 14, 3) := by decide +kernel
theorem dX2_readEnd_16 : decode cX2_readEnd 16 = .ok (.aload_n 0, 1) := by decide +kernel
theorem dX2_readEnd_17 : decode cX2_readEnd 17 = .ok (.bipush 9, 2) := by decide +kernel
theorem dX2_readEnd_19 : decode cX2_readEnd 19 = .ok (.aload_n 0, 1) := by decide +kernel
theorem dX2_readEnd_20 : decode cX2_readEnd 20 = .ok (.getfield 39, 3) := by decide +kernel
theorem dX2_readEnd_23 : decode cX2_readEnd 23 = .ok (.invokevirtual 99, 3) := by decide +kernel
theorem dX2_readEnd_26 : decode cX2_readEnd 26 = .ok (.ireturn, 1) := by decide +kernel
theorem dX2_readEnd_27 : decode cX2_readEnd 27 = .ok (.aload_n 0, 1) := by decide +kernel
theorem dX2_readEnd_28 : decode cX2_readEnd 28 = .ok (.getfield 35, 3) := by decide +kernel
theorem dX2_readEnd_31 : decode cX2_readEnd 31 = .ok (.iload_n 1, 1) := by decide +kernel
theorem dX2_readEnd_32 : decode cX2_readEnd 32 = .ok (.putfield 235, 3) := by decide +kernel
theorem dX2_readEnd_35 : decode cX2_readEnd 35 = .ok (.aload_n 0, 1) := by decide +kernel
theorem dX2_readEnd_36 : decode cX2_readEnd 36 = .ok (.dup, 1) := by decide +kernel
theorem dX2_readEnd_37 : decode cX2_readEnd 37 = .ok (.getfield 39, 3) := by decide +kernel
theorem dX2_readEnd_40 : decode cX2_readEnd 40 = .ok (.iload_n 1, 1) := by decide +kernel
theorem dX2_readEnd_41 : decode cX2_readEnd 41 = .ok (.invokestatic 224, 3) := by decide +kernel
theorem dX2_readEnd_44 : decode cX2_readEnd 44 = .ok (.invokevirtual 238, 3) := by decide +kernel
theorem dX2_readEnd_47 : decode cX2_readEnd 47 = .ok (.iadd, 1) := by decide +kernel
theorem dX2_readEnd_48 : decode cX2_readEnd 48 = .ok (.putfield 39, 3) := by decide +kernel
theorem dX2_readEnd_51 : decode cX2_readEnd 51 = .ok (.aload_n 0, 1) := by decide +kernel
theorem dX2_readEnd_52 : decode cX2_readEnd 52 = .ok (.invokevirtual 79, 3) := by decide +kernel
theorem dX2_readEnd_55 : decode cX2_readEnd 55 = .ok (.aload_n 0, 1) := by decide +kernel
theorem dX2_readEnd_56 : decode cX2_readEnd 56 = .ok (.getfield 39, 3) := by decide +kernel
theorem dX2_readEnd_59 : decode cX2_readEnd 59 = .ok (.aload_n 0, 1) := by decide +kernel
theorem dX2_readEnd_60 : decode cX2_readEnd 60 = .ok (.getfield 28, 3) := by decide +kernel
theorem dX2_readEnd_63 : decode cX2_readEnd 63 = .ok (.invokevirtual 72, 3) := by decide +kernel
theorem dX2_readEnd_66 : decode cX2_readEnd 66 = .ok (.if_icmp .eq 15, 3) := by decide +kernel
theorem dX2_readEnd_69 : decode cX2_readEnd 69 = .ok (.aload_n 0, 1) := by decide +kernel
theorem dX2_readEnd_70 : decode cX2_readEnd 70 = .ok (.iconst 1, 1) := by decide +kernel
theorem dX2_readEnd_71 : decode cX2_readEnd 71 = .ok (.aload_n 0, 1) := by decide +kernel
theorem dX2_readEnd_72 : decode cX2_readEnd 72 = .ok (.getfield 39, 3) := by decide +kernel
theorem dX2_readEnd_75 : decode cX2_readEnd 75 = .ok (.invokevirtual 99, 3) := by decide +kernel
theorem dX2_readEnd_78 : decode cX2_readEnd 78 = .ok (.ifCond .eq 7, 3) := by decide +kernel
theorem dX2_readEnd_81 : decode cX2_readEnd 81 = .ok (.iconst 1, 1) := by decide +kernel
theorem dX2_readEnd_82 : decode cX2_readEnd 82 = .ok (.goto 4, 3) := by decide +kernel
theorem dX2_readEnd_85 : decode cX2_readEnd 85 = .ok (.iconst 0, 1) := by decide +kernel
theorem dX2_readEnd_86 : decode cX2_readEnd 86 = .ok (.ireturn, 1) := by decide +kernel
end
