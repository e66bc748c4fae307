set_option maxRecDepth 20000 in
theorem ggX6_putText_J0_length_8abf5 : GoodIn wsX6_putText wsJ0_length_8abf5 := goodIn_r _ [5, 6, 7, 8, 9, 4, 10, 11, 12] rfl (by decide +kernel)
set_option maxRecDepth 20000 in
theorem gX6_putText_J0_length_8abf5 : GoodIn wsX6_putText (wsV RX6 26 RJ0 yJ0_length_8abf5 wsJ0_length_8abf5) := goodIn_app (goodIn_of _ (by decide +kernel)) ggX6_putText_J0_length_8abf5
set_option maxRecDepth 20000 in
theorem ggX6_putText_J0_charAt_5068e : GoodIn wsX6_putText wsJ0_charAt_5068e := goodIn_r2 cbX6_putText_f _ [(1, 15), (1, 5), (1, 16), (1, 17), (1, 18), (1, 3), (1, 19), (1, 10), (1, 11), (1, 20), (1, 21), (1, 22), (1, 23), (2, 0), (2, 1), (2, 2), (2, 3), (2, 4), (2, 5), (2, 6), (2, 7), (2, 8), (2, 9), (2, 10), (2, 11), (2, 12), (2, 13), (2, 14), (2, 15), (2, 16), (2, 17), (2, 18), (2, 19), (2, 20), (2, 21), (2, 22), (2, 23), (3, 0)] rfl (by decide +kernel)
set_option maxRecDepth 20000 in
theorem gX6_putText_J0_charAt_5068e : GoodIn wsX6_putText (wsV RX6 31 RJ0 yJ0_charAt_5068e wsJ0_charAt_5068e) := goodIn_app (goodIn_of _ (by decide +kernel)) ggX6_putText_J0_charAt_5068e
set_option maxRecDepth 20000 in
theorem ggX6_putText_X6_put : GoodIn wsX6_putText wsX6_put := goodIn_r2 cbX6_putText_f _ [(3, 5), (3, 6), (3, 7), (3, 8), (3, 9), (3, 10), (3, 11), (3, 12), (4, 0), (4, 1)] rfl (by decide +kernel)
set_option maxRecDepth 20000 in
theorem gX6_putText_X6_put : GoodIn wsX6_putText (wsV RX6 35 RX6 yX6_put wsX6_put) := goodIn_app (goodIn_of _ (by decide +kernel)) ggX6_putText_X6_put
set_option maxRecDepth 20000 in
theorem ggX6_putNumber_X6_put : GoodIn wsX6_putNumber wsX6_put := goodIn_r _ [5, 6, 7, 8, 9, 10, 11, 12, 13, 14] rfl (by decide +kernel)
set_option maxRecDepth 20000 in
theorem gX6_putNumber_X6_put : GoodIn wsX6_putNumber (wsV RX6 35 RX6 yX6_put wsX6_put) := goodIn_app (goodIn_of _ (by decide +kernel)) ggX6_putNumber_X6_put
set_option maxRecDepth 20000 in
theorem ggX6_copyFrom_X6_putAll : GoodIn wsX6_copyFrom wsX6_putAll := goodIn_r _ [6, 1, 7, 8, 9, 5, 10, 11, 12, 13, 14, 15, 16, 17, 18, 19, 20, 21, 22] rfl (by decide +kernel)
set_option maxRecDepth 20000 in
theorem gX6_copyFrom_X6_putAll : GoodIn wsX6_copyFrom (wsV RX6 39 RX6 yX6_putAll wsX6_putAll) := goodIn_app (goodIn_of _ (by decide +kernel)) ggX6_copyFrom_X6_putAll
set_option maxRecDepth 20000 in
theorem ggX6_putAll_X6_at : GoodIn wsX6_putAll wsX6_at := goodIn_r _ [6, 1, 7, 17, 18] rfl (by decide +kernel)
set_option maxRecDepth 20000 in
theorem gX6_putAll_X6_at : GoodIn wsX6_putAll (wsV RX6 43 RX6 yX6_at wsX6_at) := goodIn_app (goodIn_of _ (by decide +kernel)) ggX6_putAll_X6_at
set_option maxRecDepth 20000 in
theorem ggX6_putAll_X6_put : GoodIn wsX6_putAll wsX6_put := goodIn_r _ [11, 1, 7, 12, 13, 14, 15, 16, 17, 18] rfl (by decide +kernel)
set_option maxRecDepth 20000 in
theorem gX6_putAll_X6_put : GoodIn wsX6_putAll (wsV RX6 35 RX6 yX6_put wsX6_put) := goodIn_app (goodIn_of _ (by decide +kernel)) ggX6_putAll_X6_put
set_option maxRecDepth 20000 in
theorem ggX6_holds_J0_length_8abf5 : GoodIn wsX6_holds wsJ0_length_8abf5 := goodIn_r _ [7, 8, 9, 10, 11, 6, 12, 13, 14] rfl (by decide +kernel)
set_option maxRecDepth 20000 in
theorem gX6_holds_J0_length_8abf5 : GoodIn wsX6_holds (wsV RX6 26 RJ0 yJ0_length_8abf5 wsJ0_length_8abf5) := goodIn_app (goodIn_of _ (by decide +kernel)) ggX6_holds_J0_length_8abf5
set_option maxRecDepth 20000 in
theorem ggX6_holds_J0_charAt_5068e : GoodIn wsX6_holds wsJ0_charAt_5068e := goodIn_r2 cbX6_holds_f _ [(1, 17), (1, 7), (1, 18), (1, 19), (1, 20), (1, 5), (1, 21), (1, 12), (1, 13), (1, 22), (1, 23), (2, 0), (2, 1), (2, 2), (2, 3), (2, 4), (2, 5), (2, 6), (2, 7), (2, 8), (2, 9), (2, 10), (2, 11), (2, 12), (2, 13), (2, 14), (2, 15), (2, 16), (2, 17), (2, 18), (2, 19), (2, 20), (2, 21), (2, 22), (2, 23), (3, 0), (3, 1), (3, 2)] rfl (by decide +kernel)
set_option maxRecDepth 20000 in
theorem gX6_holds_J0_charAt_5068e : GoodIn wsX6_holds (wsV RX6 31 RJ0 yJ0_charAt_5068e wsJ0_charAt_5068e) := goodIn_app (goodIn_of _ (by decide +kernel)) ggX6_holds_J0_charAt_5068e
set_option maxRecDepth 20000 in
theorem ggX6_is_J0_length_8abf5 : GoodIn wsX6_is wsJ0_length_8abf5 := goodIn_r _ [6, 7, 8, 9, 10, 5, 11, 12, 13] rfl (by decide +kernel)
set_option maxRecDepth 20000 in
theorem gX6_is_J0_length_8abf5 : GoodIn wsX6_is (wsV RX6 26 RJ0 yJ0_length_8abf5 wsJ0_length_8abf5) := goodIn_app (goodIn_of _ (by decide +kernel)) ggX6_is_J0_length_8abf5
set_option maxRecDepth 20000 in
theorem ggX6_is_X6_holds : GoodIn wsX6_is wsX6_holds := goodIn_r2 cbX6_is_f _ [(1, 17), (1, 0), (1, 18), (1, 1), (1, 2), (1, 3), (1, 4), (1, 5), (1, 6), (1, 7), (1, 8), (1, 9), (1, 10), (1, 11), (1, 12), (1, 19), (1, 20), (1, 21), (1, 22), (1, 23), (2, 0), (2, 1), (2, 2), (2, 3), (2, 4), (2, 5), (2, 6), (2, 7), (2, 8), (2, 9), (2, 10), (2, 11), (2, 12), (2, 13), (2, 14), (2, 15), (2, 16), (2, 17), (2, 18), (2, 19), (2, 20), (2, 21), (2, 22), (2, 23), (3, 0), (3, 1), (3, 2), (3, 3), (3, 4), (3, 5), (3, 6), (3, 7), (4, 0), (4, 1)] rfl (by decide +kernel)
set_option maxRecDepth 20000 in
theorem gX6_is_X6_holds : GoodIn wsX6_is (wsV RX6 52 RX6 yX6_holds wsX6_holds) := goodIn_app (goodIn_of _ (by decide +kernel)) ggX6_is_X6_holds
set_option maxRecDepth 20000 in
theorem ggX6_isLike_X6_at : GoodIn wsX6_isLike wsX6_at := goodIn_r _ [7, 1, 2, 8, 9] rfl (by decide +kernel)
set_option maxRecDepth 20000 in
theorem gX6_isLike_X6_at : GoodIn wsX6_isLike (wsV RX6 43 RX6 yX6_at wsX6_at) := goodIn_app (goodIn_of _ (by decide +kernel)) ggX6_isLike_X6_at
