set_option maxRecDepth 20000 in
theorem ggX3_init_X9_init : GoodIn wsX3_init wsX9_init := goodIn_r2 cbX3_init_f _ [(1, 12), (1, 13), (1, 1), (1, 2), (1, 14), (1, 15), (1, 16), (1, 17), (1, 18), (1, 19), (1, 20), (1, 21), (1, 9), (1, 10), (1, 22), (1, 23), (2, 0), (2, 1), (2, 2), (2, 3), (2, 4), (2, 5), (2, 6), (2, 7), (2, 8), (2, 9), (2, 10), (6, 0), (6, 1), (3, 0), (5, 0), (5, 1), (5, 2), (5, 3), (5, 4), (5, 5), (5, 6)] rfl (by decide +kernel)
set_option maxRecDepth 20000 in
theorem gX3_init_X9_init_n11 : GoodIn wsX3_init (wsX9_init) := ggX3_init_X9_init
set_option maxRecDepth 20000 in
theorem ggX3_init_X0_init : GoodIn wsX3_init wsX0_init := goodIn_r2 cbX3_init_f _ [(2, 1), (2, 2), (1, 1), (1, 2), (2, 3), (2, 4), (2, 5), (2, 6), (2, 7), (2, 8), (2, 9), (2, 10), (5, 0), (5, 1), (5, 2), (5, 3), (5, 4), (5, 5), (5, 6)] rfl (by decide +kernel)
set_option maxRecDepth 20000 in
theorem gX3_init_X0_init_n24 : GoodIn wsX3_init (wsX0_init) := ggX3_init_X0_init
set_option maxRecDepth 20000 in
theorem ggX3_putHead_X1_tagAt : GoodIn wsX3_putHead wsX1_tagAt := goodIn_r2 cbX3_putHead_f _ [(1, 9), (1, 10), (1, 11), (1, 12), (1, 13), (1, 14), (1, 15), (1, 16), (1, 17), (1, 18), (1, 19), (1, 20), (1, 21), (1, 22), (1, 23), (2, 0), (2, 1), (2, 2), (2, 3), (2, 4), (2, 5), (2, 6), (7, 0), (7, 1), (7, 2), (7, 3), (7, 4), (7, 5), (7, 6), (7, 7), (8, 0), (8, 1), (10, 0), (10, 1)] rfl (by decide +kernel)
set_option maxRecDepth 20000 in
theorem gX3_putHead_X1_tagAt : GoodIn wsX3_putHead (wsV RX3 31 RX1 yX1_tagAt wsX1_tagAt) := goodIn_app (goodIn_of _ (by decide +kernel)) ggX3_putHead_X1_tagAt
set_option maxRecDepth 20000 in
theorem ggX3_putHead_X6_put : GoodIn wsX3_putHead wsX6_put := goodIn_r2 cbX3_putHead_f _ [(2, 10), (2, 6), (2, 5), (2, 11), (2, 12), (2, 13), (2, 14), (2, 15), (10, 0), (10, 1)] rfl (by decide +kernel)
set_option maxRecDepth 20000 in
theorem gX3_putHead_X6_put : GoodIn wsX3_putHead (wsV RX3 35 RX6 yX6_put wsX6_put) := goodIn_app (goodIn_of _ (by decide +kernel)) ggX3_putHead_X6_put
set_option maxRecDepth 20000 in
theorem ggX3_putHead_X6_putAll : GoodIn wsX3_putHead wsX6_putAll := goodIn_r2 cbX3_putHead_f _ [(2, 19), (2, 6), (2, 20), (2, 21), (2, 22), (1, 22), (2, 23), (2, 5), (3, 0), (2, 8), (2, 9), (2, 10), (2, 11), (2, 12), (2, 13), (2, 14), (2, 15), (10, 0), (10, 1)] rfl (by decide +kernel)
set_option maxRecDepth 20000 in
theorem gX3_putHead_X6_putAll : GoodIn wsX3_putHead (wsV RX3 47 RX6 yX6_putAll wsX6_putAll) := goodIn_app (goodIn_of _ (by decide +kernel)) ggX3_putHead_X6_putAll
set_option maxRecDepth 20000 in
theorem ggX3_putHead_X6_putText : GoodIn wsX3_putHead wsX6_putText := goodIn_r2 cbX3_putHead_f _ [(3, 4), (3, 5), (3, 6), (3, 7), (3, 8), (3, 9), (3, 10), (3, 11), (3, 12), (3, 13), (3, 14), (3, 15), (3, 16), (3, 17), (3, 18), (3, 19), (3, 20), (3, 21), (3, 22), (3, 23), (4, 0), (4, 1), (4, 2), (4, 3), (4, 4), (4, 5), (4, 6), (4, 7), (4, 8), (4, 9), (4, 10), (4, 11), (4, 12), (4, 13), (4, 14), (4, 15), (4, 16), (4, 17), (4, 18), (4, 19), (4, 20), (4, 21), (4, 22), (4, 23), (5, 0), (5, 1), (5, 2), (5, 3), (5, 4), (5, 5), (3, 0), (2, 8), (2, 9), (1, 22), (2, 10), (2, 6), (2, 5), (2, 11), (2, 12), (2, 13), (2, 14), (2, 15), (10, 0), (10, 1)] rfl (by decide +kernel)
set_option maxRecDepth 20000 in
theorem gX3_putHead_X6_putText : GoodIn wsX3_putHead (wsV RX3 53 RX6 yX6_putText wsX6_putText) := goodIn_app (goodIn_of _ (by decide +kernel)) ggX3_putHead_X6_putText
set_option maxRecDepth 20000 in
theorem ggX3_putHead_X3_putQuoted : GoodIn wsX3_putHead wsX3_putQuoted := goodIn_r2 cbX3_putHead_f _ [(5, 9), (5, 10), (5, 11), (5, 12), (1, 22), (5, 13), (2, 6), (5, 14), (2, 21), (2, 22), (2, 23), (2, 5), (2, 7), (2, 8), (2, 9), (2, 10), (2, 11), (2, 12), (2, 13), (2, 14), (2, 15), (10, 0), (10, 1)] rfl (by decide +kernel)
set_option maxRecDepth 20000 in
theorem gX3_putHead_X3_putQuoted : GoodIn wsX3_putHead (va_wsS RX3 60 yX3_putQuoted wsX3_putQuoted) := goodIn_app (goodIn_of _ (by decide +kernel)) ggX3_putHead_X3_putQuoted
set_option maxRecDepth 20000 in
theorem ggX3_putHead_X1_at : GoodIn wsX3_putHead wsX1_at := goodIn_r2 cbX3_putHead_f _ [(5, 18), (5, 19), (5, 20), (5, 21), (7, 0), (7, 1), (7, 2), (7, 3), (7, 4), (7, 5), (7, 6), (7, 7)] rfl (by decide +kernel)
set_option maxRecDepth 20000 in
theorem gX3_putHead_X1_at : GoodIn wsX3_putHead (wsV RX3 66 RX1 yX1_at wsX1_at) := goodIn_app (goodIn_of _ (by decide +kernel)) ggX3_putHead_X1_at
set_option maxRecDepth 20000 in
theorem ggX3_putHead_X3_putRemark : GoodIn wsX3_putHead wsX3_putRemark := goodIn_r2 cbX3_putHead_f _ [(6, 0), (6, 1), (5, 10), (5, 11), (5, 12), (1, 22), (5, 13), (2, 6), (6, 2), (6, 3), (5, 8), (6, 4), (5, 14), (2, 21), (2, 22), (2, 23), (2, 5), (2, 7), (2, 8), (2, 9), (2, 10), (2, 11), (2, 12), (2, 13), (2, 14), (2, 15), (2, 16), (2, 17), (2, 18), (2, 19), (2, 20), (3, 0), (11, 0), (11, 1), (11, 2), (11, 3), (11, 4), (11, 5), (11, 6), (10, 0), (10, 1)] rfl (by decide +kernel)
set_option maxRecDepth 20000 in
theorem gX3_putHead_X3_putRemark : GoodIn wsX3_putHead (va_wsS RX3 70 yX3_putRemark wsX3_putRemark) := goodIn_app (goodIn_of _ (by decide +kernel)) ggX3_putHead_X3_putRemark
set_option maxRecDepth 20000 in
theorem ggX3_putHead_X0_copyFrom : GoodIn wsX3_putHead wsX0_copyFrom := goodIn_r2 cbX3_putHead_f _ [(6, 9), (6, 10), (6, 11), (2, 13), (2, 14), (2, 15), (6, 12), (6, 13), (6, 14), (6, 15), (6, 16), (6, 17), (12, 0), (12, 1), (12, 2), (12, 3), (12, 4), (12, 5), (12, 6)] rfl (by decide +kernel)
set_option maxRecDepth 20000 in
theorem gX3_putHead_X0_copyFrom : GoodIn wsX3_putHead (wsV RX3 78 RX0 yX0_copyFrom wsX0_copyFrom) := goodIn_app (goodIn_of _ (by decide +kernel)) ggX3_putHead_X0_copyFrom
set_option maxRecDepth 20000 in
theorem ggX3_putQuoted_X6_size : GoodIn wsX3_putQuoted wsX6_size := goodIn_r _ [5, 6, 21, 22] rfl (by decide +kernel)
set_option maxRecDepth 20000 in
theorem gX3_putQuoted_X6_size : GoodIn wsX3_putQuoted (wsV RX3 82 RX6 yX6_size wsX6_size) := goodIn_app (goodIn_of _ (by decide +kernel)) ggX3_putQuoted_X6_size
set_option maxRecDepth 20000 in
theorem ggX3_putQuoted_X6_at : GoodIn wsX3_putQuoted wsX6_at := goodIn_r _ [10, 6, 11, 21, 22] rfl (by decide +kernel)
set_option maxRecDepth 20000 in
theorem gX3_putQuoted_X6_at : GoodIn wsX3_putQuoted (wsV RX3 86 RX6 yX6_at wsX6_at) := goodIn_app (goodIn_of _ (by decide +kernel)) ggX3_putQuoted_X6_at
set_option maxRecDepth 20000 in
theorem ggX3_putQuoted_X6_put : GoodIn wsX3_putQuoted wsX6_put := goodIn_r _ [15, 6, 11, 16, 17, 18, 19, 20, 21, 22] rfl (by decide +kernel)
set_option maxRecDepth 20000 in
theorem gX3_putQuoted_X6_put : GoodIn wsX3_putQuoted (wsV RX3 35 RX6 yX6_put wsX6_put) := goodIn_app (goodIn_of _ (by decide +kernel)) ggX3_putQuoted_X6_put
set_option maxRecDepth 20000 in
theorem ggX3_putEnd_X3_putGap : GoodIn wsX3_putEnd wsX3_putGap := goodIn_r2 cbX3_putEnd_f _ [(1, 4), (1, 5), (1, 6), (1, 7), (1, 8), (1, 9), (1, 10), (1, 11), (1, 12), (1, 13), (1, 14), (1, 15), (1, 16), (1, 17), (1, 18), (1, 19), (1, 20), (1, 21), (1, 22), (1, 23), (2, 0), (6, 0), (6, 1)] rfl (by decide +kernel)
set_option maxRecDepth 20000 in
theorem gX3_putEnd_X3_putGap : GoodIn wsX3_putEnd (va_wsS RX3 89 yX3_putGap wsX3_putGap) := goodIn_app (goodIn_of _ (by decide +kernel)) ggX3_putEnd_X3_putGap
set_option maxRecDepth 20000 in
theorem ggX3_putEnd_X11_resultSign : GoodIn wsX3_putEnd wsX11_resultSign := goodIn_r _ [28] rfl (by decide +kernel)
set_option maxRecDepth 20000 in
theorem gX3_putEnd_X11_resultSign_n95 : GoodIn wsX3_putEnd (wsX11_resultSign) := ggX3_putEnd_X11_resultSign
set_option maxRecDepth 20000 in
theorem ggX3_putEnd_X6_putText : GoodIn wsX3_putEnd wsX6_putText := goodIn_r2 cbX3_putEnd_f _ [(2, 7), (2, 8), (2, 9), (2, 10), (2, 11), (2, 12), (2, 13), (2, 14), (2, 15), (2, 16), (2, 17), (2, 18), (2, 19), (2, 20), (2, 21), (2, 22), (2, 23), (3, 0), (3, 1), (3, 2), (3, 3), (3, 4), (3, 5), (3, 6), (3, 7), (3, 8), (3, 9), (3, 10), (3, 11), (3, 12), (3, 13), (3, 14), (3, 15), (3, 16), (3, 17), (3, 18), (3, 19), (3, 20), (3, 21), (3, 22), (3, 23), (4, 0), (4, 1), (4, 2), (4, 3), (4, 4), (4, 5), (4, 6), (4, 7), (4, 8), (4, 9), (1, 17), (1, 18), (1, 8), (1, 19), (1, 10), (1, 15), (1, 20), (1, 21), (1, 22), (1, 23), (2, 0), (6, 0), (6, 1)] rfl (by decide +kernel)
set_option maxRecDepth 20000 in
theorem gX3_putEnd_X6_putText : GoodIn wsX3_putEnd (wsV RX3 53 RX6 yX6_putText wsX6_putText) := goodIn_app (goodIn_of _ (by decide +kernel)) ggX3_putEnd_X6_putText
set_option maxRecDepth 20000 in
theorem ggX3_putGap_X6_size : GoodIn wsX3_putGap wsX6_size := goodIn_r _ [5, 6, 21, 22] rfl (by decide +kernel)
set_option maxRecDepth 20000 in
theorem gX3_putGap_X6_size : GoodIn wsX3_putGap (wsV RX3 82 RX6 yX6_size wsX6_size) := goodIn_app (goodIn_of _ (by decide +kernel)) ggX3_putGap_X6_size
set_option maxRecDepth 20000 in
theorem ggX3_putGap_X6_at : GoodIn wsX3_putGap wsX6_at := goodIn_r _ [10, 6, 11, 21, 22] rfl (by decide +kernel)
set_option maxRecDepth 20000 in
theorem gX3_putGap_X6_at : GoodIn wsX3_putGap (wsV RX3 86 RX6 yX6_at wsX6_at) := goodIn_app (goodIn_of _ (by decide +kernel)) ggX3_putGap_X6_at
set_option maxRecDepth 20000 in
theorem ggX3_putGap_X6_put : GoodIn wsX3_putGap wsX6_put := goodIn_r _ [15, 6, 11, 16, 17, 18, 19, 20, 21, 22] rfl (by decide +kernel)
set_option maxRecDepth 20000 in
theorem gX3_putGap_X6_put : GoodIn wsX3_putGap (wsV RX3 35 RX6 yX6_put wsX6_put) := goodIn_app (goodIn_of _ (by decide +kernel)) ggX3_putGap_X6_put
set_option maxRecDepth 20000 in
theorem ggX3_putRemark_X6_size : GoodIn wsX3_putRemark wsX6_size := goodIn_r2 cbX3_putRemark_f _ [(1, 5), (1, 6), (4, 0), (4, 1)] rfl (by decide +kernel)
set_option maxRecDepth 20000 in
theorem gX3_putRemark_X6_size : GoodIn wsX3_putRemark (wsV RX3 82 RX6 yX6_size wsX6_size) := goodIn_app (goodIn_of _ (by decide +kernel)) ggX3_putRemark_X6_size
set_option maxRecDepth 20000 in
theorem ggX3_putRemark_X3_putGap : GoodIn wsX3_putRemark wsX3_putGap := goodIn_r2 cbX3_putRemark_f _ [(1, 10), (1, 1), (1, 2), (1, 3), (1, 4), (1, 5), (1, 6), (1, 11), (1, 12), (1, 13), (1, 14), (1, 15), (1, 16), (1, 17), (1, 18), (1, 19), (1, 20), (1, 21), (1, 22), (1, 23), (2, 0), (4, 0), (4, 1)] rfl (by decide +kernel)
set_option maxRecDepth 20000 in
theorem gX3_putRemark_X3_putGap : GoodIn wsX3_putRemark (va_wsS RX3 89 yX3_putGap wsX3_putGap) := goodIn_app (goodIn_of _ (by decide +kernel)) ggX3_putRemark_X3_putGap
set_option maxRecDepth 20000 in
theorem ggX3_putRemark_X6_put : GoodIn wsX3_putRemark wsX6_put := goodIn_r2 cbX3_putRemark_f _ [(1, 19), (1, 6), (1, 15), (1, 20), (1, 21), (1, 22), (1, 23), (2, 0), (4, 0), (4, 1)] rfl (by decide +kernel)
set_option maxRecDepth 20000 in
theorem gX3_putRemark_X6_put : GoodIn wsX3_putRemark (wsV RX3 35 RX6 yX6_put wsX6_put) := goodIn_app (goodIn_of _ (by decide +kernel)) ggX3_putRemark_X6_put
set_option maxRecDepth 20000 in
theorem ggX3_putRemark_X6_putAll : GoodIn wsX3_putRemark wsX6_putAll := goodIn_r2 cbX3_putRemark_f _ [(2, 4), (1, 6), (2, 5), (1, 12), (1, 13), (1, 4), (1, 14), (1, 15), (2, 6), (1, 17), (1, 18), (1, 19), (1, 20), (1, 21), (1, 22), (1, 23), (2, 0), (4, 0), (4, 1)] rfl (by decide +kernel)
set_option maxRecDepth 20000 in
theorem gX3_putRemark_X6_putAll : GoodIn wsX3_putRemark (wsV RX3 47 RX6 yX6_putAll wsX6_putAll) := goodIn_app (goodIn_of _ (by decide +kernel)) ggX3_putRemark_X6_putAll
set_option maxRecDepth 20000 in
theorem ggX3_putLine_X1_at : GoodIn wsX3_putLine wsX1_at := goodIn_r2 cbX3_putLine_f _ [(1, 9), (1, 10), (1, 11), (1, 12), (13, 0), (13, 1), (13, 2), (13, 3), (13, 4), (13, 5), (13, 6), (13, 7)] rfl (by decide +kernel)
set_option maxRecDepth 20000 in
theorem gX3_putLine_X1_at : GoodIn wsX3_putLine (wsV RX3 66 RX1 yX1_at wsX1_at) := goodIn_app (goodIn_of _ (by decide +kernel)) ggX3_putLine_X1_at
set_option maxRecDepth 20000 in
theorem ggX3_putLine_X3_putMove : GoodIn wsX3_putLine wsX3_putMove := goodIn_r2 cbX3_putLine_f _ [(1, 17), (1, 18), (1, 19), (1, 20), (1, 3), (1, 21), (1, 22), (1, 23), (1, 16), (2, 0), (2, 1), (2, 2), (2, 3), (2, 4), (2, 5), (2, 6), (2, 7), (2, 8), (2, 9), (2, 10), (2, 11), (2, 12), (2, 13), (2, 14), (2, 15), (2, 16), (2, 17), (2, 18), (2, 19), (2, 20), (2, 21), (2, 22), (2, 23), (3, 0), (3, 1), (3, 2), (3, 3), (3, 4), (3, 5), (3, 6), (3, 7), (3, 8), (3, 9), (3, 10), (3, 11), (3, 12), (3, 13), (3, 14), (3, 15), (3, 16), (3, 17), (3, 18), (3, 19), (3, 20), (3, 21), (3, 22), (3, 23), (4, 0), (4, 1), (4, 2), (4, 3), (4, 4), (4, 5), (4, 6), (4, 7), (4, 8), (4, 9), (4, 10), (4, 11), (4, 12), (4, 13), (4, 14), (4, 15), (4, 16), (4, 17), (4, 18), (4, 19), (4, 20), (4, 21), (4, 22), (4, 23), (5, 0), (5, 1), (5, 2), (5, 3), (5, 4), (5, 5), (5, 6), (5, 7), (5, 8), (5, 9), (5, 10), (5, 11), (5, 12), (5, 13), (5, 14), (5, 15), (5, 16), (5, 17), (5, 18), (5, 19), (5, 20), (5, 21), (5, 22), (5, 23), (6, 0), (6, 1), (6, 2), (6, 3), (6, 4), (6, 5), (6, 6), (6, 7), (6, 8), (6, 9), (6, 10), (6, 11), (6, 12), (6, 13), (6, 14), (6, 15), (6, 16), (6, 17), (6, 18), (6, 19), (6, 20), (6, 21), (6, 22), (6, 23), (7, 0), (7, 1), (7, 2), (7, 3), (7, 4), (7, 5), (7, 6), (7, 7), (7, 8), (7, 9), (7, 10), (7, 11), (7, 12), (7, 13), (7, 14), (7, 15), (7, 16), (7, 17), (7, 18), (7, 19), (7, 20), (7, 21), (7, 22), (7, 23), (8, 0), (8, 1), (8, 2), (8, 3), (8, 4), (8, 5), (8, 6), (8, 7), (8, 8), (8, 9), (8, 10), (8, 11), (8, 12), (8, 13), (8, 14), (8, 15), (8, 16), (8, 17), (8, 18), (8, 19), (8, 20), (8, 21), (8, 22), (8, 23), (9, 0), (9, 1), (9, 2), (9, 3), (9, 4), (9, 5), (9, 6), (9, 7), (9, 8), (9, 9), (9, 10), (9, 11), (9, 12), (9, 13), (9, 14), (9, 15), (9, 16), (9, 17), (9, 18), (9, 19), (9, 20), (9, 21), (1, 1), (9, 22), (9, 23), (10, 0), (10, 1), (10, 2), (14, 0), (14, 1), (14, 2), (14, 3), (14, 4), (14, 5), (14, 6), (11, 0), (11, 1), (12, 0), (12, 1), (12, 2), (12, 3), (12, 4), (12, 5), (12, 6), (15, 0), (15, 1), (16, 0), (17, 0), (17, 1)] rfl (by decide +kernel)
set_option maxRecDepth 20000 in
theorem gX3_putLine_X3_putMove : GoodIn wsX3_putLine (wsV RX3 104 RX3 yX3_putMove wsX3_putMove) := goodIn_app (goodIn_of _ (by decide +kernel)) ggX3_putLine_X3_putMove
set_option maxRecDepth 20000 in
theorem ggX3_putLine_X6_size : GoodIn wsX3_putLine wsX6_size := goodIn_r2 cbX3_putLine_f _ [(2, 5), (2, 6), (15, 0), (15, 1)] rfl (by decide +kernel)
set_option maxRecDepth 20000 in
theorem gX3_putLine_X6_size : GoodIn wsX3_putLine (wsV RX3 82 RX6 yX6_size wsX6_size) := goodIn_app (goodIn_of _ (by decide +kernel)) ggX3_putLine_X6_size
set_option maxRecDepth 20000 in
theorem ggX3_putLine_X1_goesOn : GoodIn wsX3_putLine wsX1_goesOn := goodIn_r2 cbX3_putLine_f _ [(10, 6), (10, 7), (10, 8), (10, 9), (1, 6), (1, 7), (1, 8), (1, 9), (1, 10), (1, 11), (1, 12), (12, 0), (12, 1), (12, 2), (12, 3), (12, 4), (12, 5), (12, 6), (13, 0), (13, 1), (13, 2), (13, 3), (13, 4), (13, 5), (13, 6), (13, 7)] rfl (by decide +kernel)
set_option maxRecDepth 20000 in
theorem gX3_putLine_X1_goesOn : GoodIn wsX3_putLine (wsV RX3 108 RX1 yX1_goesOn wsX1_goesOn) := goodIn_app (goodIn_of _ (by decide +kernel)) ggX3_putLine_X1_goesOn
set_option maxRecDepth 20000 in
theorem ggX3_putLine_X0_copyFrom : GoodIn wsX3_putLine wsX0_copyFrom := goodIn_r2 cbX3_putLine_f _ [(8, 2), (5, 18), (8, 3), (2, 18), (2, 19), (2, 20), (8, 4), (8, 5), (6, 19), (7, 10), (7, 0), (8, 6), (14, 0), (14, 1), (14, 2), (14, 3), (14, 4), (14, 5), (14, 6)] rfl (by decide +kernel)
set_option maxRecDepth 20000 in
theorem gX3_putLine_X0_copyFrom : GoodIn wsX3_putLine (wsV RX3 78 RX0 yX0_copyFrom wsX0_copyFrom) := goodIn_app (goodIn_of _ (by decide +kernel)) ggX3_putLine_X0_copyFrom
set_option maxRecDepth 20000 in
theorem ggX3_putLine_X3_putGap : GoodIn wsX3_putLine wsX3_putGap := goodIn_r2 cbX3_putLine_f _ [(2, 0), (2, 1), (2, 2), (2, 3), (2, 4), (2, 5), (2, 6), (2, 7), (2, 8), (2, 9), (2, 10), (2, 11), (2, 12), (2, 13), (2, 14), (2, 15), (2, 16), (2, 17), (2, 18), (2, 19), (2, 20), (15, 0), (15, 1)] rfl (by decide +kernel)
set_option maxRecDepth 20000 in
theorem gX3_putLine_X3_putGap : GoodIn wsX3_putLine (va_wsS RX3 89 yX3_putGap wsX3_putGap) := goodIn_app (goodIn_of _ (by decide +kernel)) ggX3_putLine_X3_putGap
set_option maxRecDepth 20000 in
theorem ggX3_putLine_X6_put : GoodIn wsX3_putLine wsX6_put := goodIn_r2 cbX3_putLine_f _ [(2, 15), (2, 6), (2, 11), (2, 16), (2, 17), (2, 18), (2, 19), (2, 20), (15, 0), (15, 1)] rfl (by decide +kernel)
set_option maxRecDepth 20000 in
theorem gX3_putLine_X6_put : GoodIn wsX3_putLine (wsV RX3 35 RX6 yX6_put wsX6_put) := goodIn_app (goodIn_of _ (by decide +kernel)) ggX3_putLine_X6_put
set_option maxRecDepth 20000 in
theorem ggX3_putLine_X3_putLine : GoodIn wsX3_putLine wsX3_putLine := goodIn_r2 cbX3_putLine_f _ [(0, 0), (1, 0), (1, 1), (1, 2), (1, 3), (1, 4), (1, 5), (1, 6), (1, 7), (1, 8), (1, 9), (1, 10), (1, 11), (1, 12), (1, 13), (1, 14), (1, 15), (1, 16), (1, 17), (1, 18), (1, 19), (1, 20), (1, 21), (1, 22), (1, 23), (2, 0), (2, 1), (2, 2), (2, 3), (2, 4), (2, 5), (2, 6), (2, 7), (2, 8), (2, 9), (2, 10), (2, 11), (2, 12), (2, 13), (2, 14), (2, 15), (2, 16), (2, 17), (2, 18), (2, 19), (2, 20), (2, 21), (2, 22), (2, 23), (3, 0), (3, 1), (3, 2), (3, 3), (3, 4), (3, 5), (3, 6), (3, 7), (3, 8), (3, 9), (3, 10), (3, 11), (3, 12), (3, 13), (3, 14), (3, 15), (3, 16), (3, 17), (3, 18), (3, 19), (3, 20), (3, 21), (3, 22), (3, 23), (4, 0), (4, 1), (4, 2), (4, 3), (4, 4), (4, 5), (4, 6), (4, 7), (4, 8), (4, 9), (4, 10), (4, 11), (4, 12), (4, 13), (4, 14), (4, 15), (4, 16), (4, 17), (4, 18), (4, 19), (4, 20), (4, 21), (4, 22), (4, 23), (5, 0), (5, 1), (5, 2), (5, 3), (5, 4), (5, 5), (5, 6), (5, 7), (5, 8), (5, 9), (5, 10), (5, 11), (5, 12), (5, 13), (5, 14), (5, 15), (5, 16), (5, 17), (5, 18), (5, 19), (5, 20), (5, 21), (5, 22), (5, 23), (6, 0), (6, 1), (6, 2), (6, 3), (6, 4), (6, 5), (6, 6), (6, 7), (6, 8), (6, 9), (6, 10), (6, 11), (6, 12), (6, 13), (6, 14), (6, 15), (6, 16), (6, 17), (6, 18), (6, 19), (6, 20), (6, 21), (6, 22), (6, 23), (7, 0), (7, 1), (7, 2), (7, 3), (7, 4), (7, 5), (7, 6), (7, 7), (7, 8), (7, 9), (7, 10), (7, 11), (7, 12), (7, 13), (7, 14), (7, 15), (7, 16), (7, 17), (7, 18), (7, 19), (7, 20), (7, 21), (7, 22), (7, 23), (8, 0), (8, 1), (8, 2), (8, 3), (8, 4), (8, 5), (8, 6), (8, 7), (8, 8), (8, 9), (8, 10), (8, 11), (8, 12), (8, 13), (8, 14), (8, 15), (8, 16), (8, 17), (8, 18), (8, 19), (8, 20), (8, 21), (8, 22), (8, 23), (9, 0), (9, 1), (9, 2), (9, 3), (9, 4), (9, 5), (9, 6), (9, 7), (9, 8), (9, 9), (9, 10), (9, 11), (9, 12), (9, 13), (9, 14), (9, 15), (9, 16), (9, 17), (9, 18), (9, 19), (9, 20), (9, 21), (9, 22), (9, 23), (10, 0), (10, 1), (10, 2), (10, 3), (10, 4), (10, 5), (10, 6), (10, 7), (10, 8), (10, 9), (10, 10), (10, 11), (10, 12), (10, 13), (10, 14), (11, 0), (11, 1), (12, 0), (12, 1), (12, 2), (12, 3), (12, 4), (12, 5), (12, 6), (13, 0), (13, 1), (13, 2), (13, 3), (13, 4), (13, 5), (13, 6), (13, 7), (14, 0), (14, 1), (14, 2), (14, 3), (14, 4), (14, 5), (14, 6), (15, 0), (15, 1), (16, 0), (17, 0), (17, 1)] rfl (by decide +kernel)
set_option maxRecDepth 20000 in
theorem gX3_putLine_X3_putLine : GoodIn wsX3_putLine (wsV RX3 115 RX3 yX3_putLine wsX3_putLine) := goodIn_app (goodIn_of _ (by decide +kernel)) ggX3_putLine_X3_putLine
set_option maxRecDepth 20000 in
theorem ggX3_putLine_X0_play : GoodIn wsX3_putLine wsX0_play := goodIn_r2 cbX3_putLine_f _ [(8, 10), (7, 0), (5, 18), (6, 19), (7, 10), (8, 6), (6, 0), (6, 1), (6, 2), (5, 16), (6, 3), (7, 5), (5, 14), (5, 15), (5, 17), (8, 11), (8, 12), (8, 13), (8, 14), (8, 4), (8, 5), (8, 15), (8, 16), (8, 17), (8, 18), (8, 19), (8, 20), (8, 21), (14, 0), (14, 1), (14, 2), (14, 3), (14, 4), (14, 5), (14, 6)] rfl (by decide +kernel)
set_option maxRecDepth 20000 in
theorem gX3_putLine_X0_play : GoodIn wsX3_putLine (wsV RX3 122 RX0 yX0_play wsX0_play) := goodIn_app (goodIn_of _ (by decide +kernel)) ggX3_putLine_X0_play
set_option maxRecDepth 20000 in
theorem ggX3_putMove_X3_putGap : GoodIn wsX3_putMove wsX3_putGap := goodIn_r2 cbX3_putMove_f _ [(1, 8), (1, 9), (1, 10), (1, 11), (1, 12), (1, 13), (1, 14), (1, 15), (1, 16), (1, 17), (1, 18), (1, 19), (1, 20), (1, 21), (1, 22), (1, 23), (2, 0), (2, 1), (2, 2), (2, 3), (2, 4), (13, 0), (13, 1)] rfl (by decide +kernel)
set_option maxRecDepth 20000 in
theorem gX3_putMove_X3_putGap : GoodIn wsX3_putMove (va_wsS RX3 89 yX3_putGap wsX3_putGap) := goodIn_app (goodIn_of _ (by decide +kernel)) ggX3_putMove_X3_putGap
set_option maxRecDepth 20000 in
theorem ggX3_putMove_X6_putNumber : GoodIn wsX3_putMove wsX6_putNumber := goodIn_r2 cbX3_putMove_f _ [(2, 8), (2, 9), (1, 21), (1, 22), (1, 12), (1, 23), (1, 14), (1, 19), (2, 0), (2, 1), (2, 2), (2, 3), (2, 4), (13, 0), (13, 1)] rfl (by decide +kernel)
set_option maxRecDepth 20000 in
theorem gX3_putMove_X6_putNumber : GoodIn wsX3_putMove (wsV RX3 135 RX6 yX6_putNumber wsX6_putNumber) := goodIn_app (goodIn_of _ (by decide +kernel)) ggX3_putMove_X6_putNumber
set_option maxRecDepth 20000 in
theorem ggX3_putMove_X6_putText : GoodIn wsX3_putMove wsX6_putText := goodIn_r2 cbX3_putMove_f _ [(2, 13), (2, 14), (2, 15), (2, 16), (2, 17), (2, 18), (2, 19), (2, 20), (2, 21), (2, 22), (2, 23), (3, 0), (3, 1), (3, 2), (3, 3), (3, 4), (3, 5), (3, 6), (3, 7), (3, 8), (3, 9), (3, 10), (3, 11), (3, 12), (3, 13), (3, 14), (3, 15), (3, 16), (3, 17), (3, 18), (3, 19), (3, 20), (3, 21), (3, 22), (3, 23), (4, 0), (4, 1), (4, 2), (4, 3), (4, 4), (4, 5), (4, 6), (4, 7), (4, 8), (4, 9), (4, 10), (4, 11), (4, 12), (4, 13), (4, 14), (2, 9), (1, 21), (1, 22), (1, 12), (1, 23), (1, 14), (1, 19), (2, 0), (2, 1), (2, 2), (2, 3), (2, 4), (13, 0), (13, 1)] rfl (by decide +kernel)
set_option maxRecDepth 20000 in
theorem gX3_putMove_X6_putText : GoodIn wsX3_putMove (wsV RX3 53 RX6 yX6_putText wsX6_putText) := goodIn_app (goodIn_of _ (by decide +kernel)) ggX3_putMove_X6_putText
set_option maxRecDepth 20000 in
theorem ggX3_putMove_X9_putSigns : GoodIn wsX3_putMove wsX9_putSigns := goodIn_r2 cbX3_putMove_f _ [(4, 19), (4, 20), (4, 21), (4, 22), (4, 23), (5, 0), (5, 1), (5, 2), (5, 3), (2, 11), (2, 12), (1, 12), (2, 13), (2, 14), (2, 15), (2, 16), (2, 17), (2, 18), (2, 19), (2, 20), (2, 21), (2, 22), (2, 23), (3, 0), (3, 1), (3, 2), (3, 3), (3, 4), (3, 5), (3, 6), (3, 7), (3, 8), (3, 9), (3, 10), (3, 11), (3, 12), (3, 13), (3, 14), (3, 15), (3, 16), (3, 17), (3, 18), (3, 19), (3, 20), (3, 21), (3, 22), (3, 23), (4, 0), (4, 1), (4, 2), (4, 3), (4, 4), (4, 5), (4, 6), (4, 7), (4, 8), (4, 9), (4, 10), (4, 11), (4, 12), (4, 13), (4, 14), (2, 9), (1, 21), (1, 22), (1, 23), (1, 14), (1, 19), (2, 0), (2, 1), (2, 2), (2, 3), (2, 4), (5, 4), (5, 5), (5, 6), (5, 7), (5, 8), (5, 9), (5, 10), (5, 11), (5, 12), (5, 13), (5, 14), (5, 15), (5, 16), (5, 17), (5, 18), (5, 19), (5, 20), (4, 18), (5, 21), (5, 22), (5, 23), (6, 0), (6, 1), (6, 2), (6, 3), (6, 4), (6, 5), (6, 6), (6, 7), (6, 8), (6, 9), (6, 10), (6, 11), (6, 12), (6, 13), (6, 14), (6, 15), (6, 16), (6, 17), (6, 18), (6, 19), (6, 20), (6, 21), (6, 22), (6, 23), (7, 0), (7, 1), (7, 2), (7, 3), (7, 4), (7, 5), (7, 6), (7, 7), (7, 8), (7, 9), (7, 10), (7, 11), (7, 12), (7, 13), (7, 14), (7, 15), (7, 16), (7, 17), (7, 18), (7, 19), (7, 20), (7, 21), (7, 22), (7, 23), (8, 0), (8, 1), (8, 2), (8, 3), (8, 4), (8, 5), (8, 6), (8, 7), (8, 8), (8, 9), (8, 10), (8, 11), (8, 12), (8, 13), (8, 14), (8, 15), (8, 16), (8, 17), (8, 18), (8, 19), (8, 20), (14, 0), (10, 0), (10, 1), (10, 2), (10, 3), (10, 4), (10, 5), (10, 6), (13, 0), (13, 1), (15, 0), (15, 1)] rfl (by decide +kernel)
set_option maxRecDepth 20000 in
theorem gX3_putMove_X9_putSigns : GoodIn wsX3_putMove (wsV RX3 142 RX9 yX9_putSigns wsX9_putSigns) := goodIn_app (goodIn_of _ (by decide +kernel)) ggX3_putMove_X9_putSigns
set_option maxRecDepth 20000 in
theorem ggX3_putMove_X6_put : GoodIn wsX3_putMove wsX6_put := goodIn_r2 cbX3_putMove_f _ [(1, 23), (1, 14), (1, 19), (2, 0), (2, 1), (2, 2), (2, 3), (2, 4), (13, 0), (13, 1)] rfl (by decide +kernel)
set_option maxRecDepth 20000 in
theorem gX3_putMove_X6_put : GoodIn wsX3_putMove (wsV RX3 35 RX6 yX6_put wsX6_put) := goodIn_app (goodIn_of _ (by decide +kernel)) ggX3_putMove_X6_put
set_option maxRecDepth 20000 in
theorem ggX3_putMove_X4_markAt : GoodIn wsX3_putMove wsX4_markAt := goodIn_r2 cbX3_putMove_f _ [(9, 1), (9, 2), (12, 0), (12, 1), (12, 2), (12, 3), (12, 4), (12, 5), (12, 6)] rfl (by decide +kernel)
set_option maxRecDepth 20000 in
theorem gX3_putMove_X4_markAt : GoodIn wsX3_putMove (wsV RX3 149 RX4 yX4_markAt wsX4_markAt) := goodIn_app (goodIn_of _ (by decide +kernel)) ggX3_putMove_X4_markAt
set_option maxRecDepth 20000 in
theorem ggX3_putMove_X3_putRemark : GoodIn wsX3_putMove wsX3_putRemark := goodIn_r2 cbX3_putMove_f _ [(9, 5), (9, 6), (1, 9), (1, 10), (1, 11), (1, 12), (1, 13), (1, 14), (1, 5), (1, 6), (1, 7), (1, 8), (1, 15), (1, 16), (1, 17), (1, 18), (1, 19), (1, 20), (1, 21), (1, 22), (1, 23), (2, 0), (2, 1), (2, 2), (2, 3), (2, 4), (9, 7), (9, 8), (9, 9), (9, 10), (9, 11), (2, 9), (12, 0), (12, 1), (12, 2), (12, 3), (12, 4), (12, 5), (12, 6), (13, 0), (13, 1)] rfl (by decide +kernel)
set_option maxRecDepth 20000 in
theorem gX3_putMove_X3_putRemark : GoodIn wsX3_putMove (va_wsS RX3 70 yX3_putRemark wsX3_putRemark) := goodIn_app (goodIn_of _ (by decide +kernel)) ggX3_putMove_X3_putRemark
