set_option maxRecDepth 20000 in
theorem ggX6_putText_J0_length_8abf5 : GoodIn wsX6_putText wsJ0_length_8abf5 := goodIn_r _ [5, 6, 7, 8, 9, 4, 10, 11, 12] rfl (by decide +kernel)
set_option maxRecDepth 20000 in
theorem gX6_putText_J0_length_8abf5 : GoodIn wsX6_putText (wsV RX6 26 RJ0 yJ0_length_8abf5 wsJ0_length_8abf5) := goodIn_app (goodIn_of _ (by decide +kernel)) ggX6_putText_J0_length_8abf5
set_option maxRecDepth 20000 in
theorem ggX6_putText_J0_charAt_5068e : GoodIn wsX6_putText wsJ0_charAt_5068e := goodIn_r _ [16, 6, 17, 18, 19, 4, 20, 11, 12, 21, 22, 23, 24, 25, 26, 27, 28, 29, 30, 31, 32, 33, 34, 35, 36, 37, 38, 39, 40, 41, 42, 43, 44, 45, 46, 47, 48, 49] rfl (by decide +kernel)
set_option maxRecDepth 20000 in
theorem gX6_putText_J0_charAt_5068e : GoodIn wsX6_putText (wsV RX6 31 RJ0 yJ0_charAt_5068e wsJ0_charAt_5068e) := goodIn_app (goodIn_of _ (by decide +kernel)) ggX6_putText_J0_charAt_5068e
set_option maxRecDepth 20000 in
theorem ggX6_putText_X6_put : GoodIn wsX6_putText wsX6_put := goodIn_r _ [54, 55, 56, 57, 58, 59, 60, 61, 62, 63] rfl (by decide +kernel)
set_option maxRecDepth 20000 in
theorem gX6_putText_X6_put : GoodIn wsX6_putText (wsV RX6 35 RX6 yX6_put wsX6_put) := goodIn_app (goodIn_of _ (by decide +kernel)) ggX6_putText_X6_put
set_option maxRecDepth 20000 in
theorem ggX6_putNumber_X6_put : GoodIn wsX6_putNumber wsX6_put := goodIn_r _ [5, 6, 7, 8, 9, 10, 11, 12, 13, 14] rfl (by decide +kernel)
set_option maxRecDepth 20000 in
theorem gX6_putNumber_X6_put : GoodIn wsX6_putNumber (wsV RX6 35 RX6 yX6_put wsX6_put) := goodIn_app (goodIn_of _ (by decide +kernel)) ggX6_putNumber_X6_put
set_option maxRecDepth 20000 in
theorem ggX6_copyFrom_X6_putAll : GoodIn wsX6_copyFrom wsX6_putAll := goodIn_r _ [6, 1, 7, 8, 9, 5, 10, 11, 12, 13, 14, 15, 16, 17, 18, 19, 20, 21, 22] rfl (by decide +kernel)
set_option maxRecDepth 20000 in
theorem gX6_copyFrom_X6_putAll : GoodIn wsX6_copyFrom (wsV RX6 39 RX6 yX6_putAll wsX6_putAll) := goodIn_app (goodIn_of _ (by decide +kernel)) ggX6_copyFrom_X6_putAll
set_option maxRecDepth 20000 in
theorem ggX6_putAll_X6_at : GoodIn wsX6_putAll wsX6_at := goodIn_r _ [6, 1, 7, 17, 18] rfl (by decide +kernel)
set_option maxRecDepth 20000 in
theorem gX6_putAll_X6_at : GoodIn wsX6_putAll (wsV RX6 43 RX6 yX6_at wsX6_at) := goodIn_app (goodIn_of _ (by decide +kernel)) ggX6_putAll_X6_at
set_option maxRecDepth 20000 in
theorem ggX6_putAll_X6_put : GoodIn wsX6_putAll wsX6_put := goodIn_r _ [11, 1, 7, 12, 13, 14, 15, 16, 17, 18] rfl (by decide +kernel)
set_option maxRecDepth 20000 in
theorem gX6_putAll_X6_put : GoodIn wsX6_putAll (wsV RX6 35 RX6 yX6_put wsX6_put) := goodIn_app (goodIn_of _ (by decide +kernel)) ggX6_putAll_X6_put
set_option maxRecDepth 20000 in
theorem ggX6_holds_J0_length_8abf5 : GoodIn wsX6_holds wsJ0_length_8abf5 := goodIn_r _ [7, 8, 9, 10, 11, 6, 12, 13, 14] rfl (by decide +kernel)
set_option maxRecDepth 20000 in
theorem gX6_holds_J0_length_8abf5 : GoodIn wsX6_holds (wsV RX6 26 RJ0 yJ0_length_8abf5 wsJ0_length_8abf5) := goodIn_app (goodIn_of _ (by decide +kernel)) ggX6_holds_J0_length_8abf5
set_option maxRecDepth 20000 in
theorem ggX6_holds_J0_charAt_5068e : GoodIn wsX6_holds wsJ0_charAt_5068e := goodIn_r _ [18, 8, 19, 20, 21, 6, 22, 13, 14, 23, 24, 25, 26, 27, 28, 29, 30, 31, 32, 33, 34, 35, 36, 37, 38, 39, 40, 41, 42, 43, 44, 45, 46, 47, 48, 49, 50, 51] rfl (by decide +kernel)
set_option maxRecDepth 20000 in
theorem gX6_holds_J0_charAt_5068e : GoodIn wsX6_holds (wsV RX6 31 RJ0 yJ0_charAt_5068e wsJ0_charAt_5068e) := goodIn_app (goodIn_of _ (by decide +kernel)) ggX6_holds_J0_charAt_5068e
set_option maxRecDepth 20000 in
theorem ggX6_is_J0_length_8abf5 : GoodIn wsX6_is wsJ0_length_8abf5 := goodIn_r _ [6, 7, 8, 9, 10, 5, 11, 12, 13] rfl (by decide +kernel)
set_option maxRecDepth 20000 in
theorem gX6_is_J0_length_8abf5 : GoodIn wsX6_is (wsV RX6 26 RJ0 yJ0_length_8abf5 wsJ0_length_8abf5) := goodIn_app (goodIn_of _ (by decide +kernel)) ggX6_is_J0_length_8abf5
set_option maxRecDepth 20000 in
theorem ggX6_is_X6_holds : GoodIn wsX6_is wsX6_holds := goodIn_r _ [18, 1, 19, 2, 3, 4, 5, 6, 7, 8, 9, 10, 11, 12, 13, 20, 21, 22, 23, 24, 25, 26, 27, 28, 29, 30, 31, 32, 33, 34, 35, 36, 37, 38, 39, 40, 41, 42, 43, 44, 45, 46, 47, 48, 49, 50, 51, 52, 53, 54, 55, 56, 57, 58] rfl (by decide +kernel)
set_option maxRecDepth 20000 in
theorem gX6_is_X6_holds : GoodIn wsX6_is (wsV RX6 52 RX6 yX6_holds wsX6_holds) := goodIn_app (goodIn_of _ (by decide +kernel)) ggX6_is_X6_holds
set_option maxRecDepth 20000 in
theorem ggX6_isLike_X6_at : GoodIn wsX6_isLike wsX6_at := goodIn_r _ [7, 1, 2, 8, 9] rfl (by decide +kernel)
set_option maxRecDepth 20000 in
theorem gX6_isLike_X6_at : GoodIn wsX6_isLike (wsV RX6 43 RX6 yX6_at wsX6_at) := goodIn_app (goodIn_of _ (by decide +kernel)) ggX6_isLike_X6_at
