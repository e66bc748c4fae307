set_option maxRecDepth 20000 in
theorem ggX4_init_X6_init : GoodIn wsX4_init wsX6_init := goodIn_r _ [15, 16, 2, 3, 17, 18, 19, 27, 28] rfl (by decide +kernel)
set_option maxRecDepth 20000 in
theorem gX4_init_X6_init_n32 : GoodIn wsX4_init (wsX6_init) := ggX4_init_X6_init
set_option maxRecDepth 20000 in
theorem ggX4_become_X6_keep : GoodIn wsX4_become wsX6_keep := goodIn_r _ [12, 13, 21, 22] rfl (by decide +kernel)
set_option maxRecDepth 20000 in
theorem gX4_become_X6_keep : GoodIn wsX4_become (wsV RX4 37 RX6 yX6_keep wsX6_keep) := goodIn_app (goodIn_of _ (by decide +kernel)) ggX4_become_X6_keep
set_option maxRecDepth 20000 in
theorem ggX4_joinRemark_X6_size : GoodIn wsX4_joinRemark wsX6_size := goodIn_r _ [6, 7, 29, 30] rfl (by decide +kernel)
set_option maxRecDepth 20000 in
theorem gX4_joinRemark_X6_size : GoodIn wsX4_joinRemark (wsV RX4 41 RX6 yX6_size wsX6_size) := goodIn_app (goodIn_of _ (by decide +kernel)) ggX4_joinRemark_X6_size
set_option maxRecDepth 20000 in
theorem ggX4_joinRemark_X6_put : GoodIn wsX4_joinRemark wsX6_put := goodIn_r _ [11, 7, 12, 13, 14, 15, 16, 17, 29, 30] rfl (by decide +kernel)
set_option maxRecDepth 20000 in
theorem gX4_joinRemark_X6_put : GoodIn wsX4_joinRemark (wsV RX4 45 RX6 yX6_put wsX6_put) := goodIn_app (goodIn_of _ (by decide +kernel)) ggX4_joinRemark_X6_put
set_option maxRecDepth 20000 in
theorem ggX4_joinRemark_X6_at : GoodIn wsX4_joinRemark wsX6_at := goodIn_r _ [21, 7, 12, 29, 30] rfl (by decide +kernel)
set_option maxRecDepth 20000 in
theorem gX4_joinRemark_X6_at : GoodIn wsX4_joinRemark (wsV RX4 49 RX6 yX6_at wsX6_at) := goodIn_app (goodIn_of _ (by decide +kernel)) ggX4_joinRemark_X6_at
