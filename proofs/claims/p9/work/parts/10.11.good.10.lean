set_option maxRecDepth 20000 in
theorem ggX10_init_X6_init : GoodIn wsX10_init wsX6_init := goodIn_r _ [10, 11, 2, 3, 12, 13, 14, 15, 16] rfl (by decide +kernel)
set_option maxRecDepth 20000 in
theorem gX10_init_X6_init_n9 : GoodIn wsX10_init (wsX6_init) := ggX10_init_X6_init
