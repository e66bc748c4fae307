set_option maxRecDepth 20000 in
theorem ggX3_init_X9_init : GoodIn wsX3_init wsX9_init := goodIn_r _ [13, 14, 2, 3, 15, 16, 17, 18, 19, 20, 21, 22, 10, 11, 23, 24, 25, 26, 27, 28, 29, 30, 31, 32, 33, 34, 35, 46, 47, 36, 39, 40, 41, 42, 43, 44, 45] rfl (by decide +kernel)
set_option maxRecDepth 20000 in
theorem gX3_init_X9_init_n11 : GoodIn wsX3_init (wsX9_init) := ggX3_init_X9_init
set_option maxRecDepth 20000 in
theorem ggX3_init_X0_init : GoodIn wsX3_init wsX0_init := goodIn_r _ [26, 27, 2, 3, 28, 29, 30, 31, 32, 33, 34, 35, 39, 40, 41, 42, 43, 44, 45] rfl (by decide +kernel)
set_option maxRecDepth 20000 in
theorem gX3_init_X0_init_n24 : GoodIn wsX3_init (wsX0_init) := ggX3_init_X0_init
set_option maxRecDepth 20000 in
theorem ggX3_putHead_X1_tagAt : GoodIn wsX3_putHead wsX1_tagAt := goodIn_r _ [10, 11, 12, 13, 14, 15, 16, 17, 18, 19, 20, 21, 22, 23, 24, 25, 26, 27, 28, 29, 30, 31, 139, 140, 141, 142, 143, 144, 145, 146, 147, 148, 151, 152] rfl (by decide +kernel)
set_option maxRecDepth 20000 in
theorem gX3_putHead_X1_tagAt : GoodIn wsX3_putHead (wsV RX3 31 RX1 yX1_tagAt wsX1_tagAt) := goodIn_app (goodIn_of _ (by decide +kernel)) ggX3_putHead_X1_tagAt
set_option maxRecDepth 20000 in
theorem ggX3_putHead_X6_put : GoodIn wsX3_putHead wsX6_put := goodIn_r _ [35, 31, 30, 36, 37, 38, 39, 40, 151, 152] rfl (by decide +kernel)
set_option maxRecDepth 20000 in
theorem gX3_putHead_X6_put : GoodIn wsX3_putHead (wsV RX3 35 RX6 yX6_put wsX6_put) := goodIn_app (goodIn_of _ (by decide +kernel)) ggX3_putHead_X6_put
set_option maxRecDepth 20000 in
theorem ggX3_putHead_X6_putAll : GoodIn wsX3_putHead wsX6_putAll := goodIn_r _ [44, 31, 45, 46, 47, 23, 48, 30, 49, 33, 34, 35, 36, 37, 38, 39, 40, 151, 152] rfl (by decide +kernel)
set_option maxRecDepth 20000 in
theorem gX3_putHead_X6_putAll : GoodIn wsX3_putHead (wsV RX3 47 RX6 yX6_putAll wsX6_putAll) := goodIn_app (goodIn_of _ (by decide +kernel)) ggX3_putHead_X6_putAll
set_option maxRecDepth 20000 in
theorem ggX3_putHead_X6_putText : GoodIn wsX3_putHead wsX6_putText := goodIn_r _ [53, 54, 55, 56, 57, 58, 59, 60, 61, 62, 63, 64, 65, 66, 67, 68, 69, 70, 71, 72, 73, 74, 75, 76, 77, 78, 79, 80, 81, 82, 83, 84, 85, 86, 87, 88, 89, 90, 91, 92, 93, 94, 95, 96, 97, 98, 99, 100, 101, 102, 49, 33, 34, 23, 35, 31, 30, 36, 37, 38, 39, 40, 151, 152] rfl (by decide +kernel)
set_option maxRecDepth 20000 in
theorem gX3_putHead_X6_putText : GoodIn wsX3_putHead (wsV RX3 53 RX6 yX6_putText wsX6_putText) := goodIn_app (goodIn_of _ (by decide +kernel)) ggX3_putHead_X6_putText
set_option maxRecDepth 20000 in
theorem ggX3_putHead_X3_putQuoted : GoodIn wsX3_putHead wsX3_putQuoted := goodIn_r _ [106, 107, 108, 109, 23, 110, 31, 111, 46, 47, 48, 30, 32, 33, 34, 35, 36, 37, 38, 39, 40, 151, 152] rfl (by decide +kernel)
set_option maxRecDepth 20000 in
theorem gX3_putHead_X3_putQuoted : GoodIn wsX3_putHead (va_wsS RX3 60 yX3_putQuoted wsX3_putQuoted) := goodIn_app (goodIn_of _ (by decide +kernel)) ggX3_putHead_X3_putQuoted
set_option maxRecDepth 20000 in
theorem ggX3_putHead_X1_at : GoodIn wsX3_putHead wsX1_at := goodIn_r _ [115, 116, 117, 118, 139, 140, 141, 142, 143, 144, 145, 146] rfl (by decide +kernel)
set_option maxRecDepth 20000 in
theorem gX3_putHead_X1_at : GoodIn wsX3_putHead (wsV RX3 66 RX1 yX1_at wsX1_at) := goodIn_app (goodIn_of _ (by decide +kernel)) ggX3_putHead_X1_at
set_option maxRecDepth 20000 in
theorem ggX3_putHead_X3_putRemark : GoodIn wsX3_putHead wsX3_putRemark := goodIn_r _ [121, 122, 107, 108, 109, 23, 110, 31, 123, 124, 105, 125, 111, 46, 47, 48, 30, 32, 33, 34, 35, 36, 37, 38, 39, 40, 41, 42, 43, 44, 45, 49, 153, 154, 155, 156, 157, 158, 159, 151, 152] rfl (by decide +kernel)
set_option maxRecDepth 20000 in
theorem gX3_putHead_X3_putRemark : GoodIn wsX3_putHead (va_wsS RX3 70 yX3_putRemark wsX3_putRemark) := goodIn_app (goodIn_of _ (by decide +kernel)) ggX3_putHead_X3_putRemark
set_option maxRecDepth 20000 in
theorem ggX3_putHead_X0_copyFrom : GoodIn wsX3_putHead wsX0_copyFrom := goodIn_r _ [130, 131, 132, 38, 39, 40, 133, 134, 135, 136, 137, 138, 160, 161, 162, 163, 164, 165, 166] rfl (by decide +kernel)
set_option maxRecDepth 20000 in
theorem gX3_putHead_X0_copyFrom : GoodIn wsX3_putHead (wsV RX3 78 RX0 yX0_copyFrom wsX0_copyFrom) := goodIn_app (goodIn_of _ (by decide +kernel)) ggX3_putHead_X0_copyFrom
set_option maxRecDepth 20000 in
theorem ggX3_putQuoted_X6_size : GoodIn wsX3_putQuoted wsX6_size := goodIn_r _ [5, 6, 21, 22] rfl (by decide +kernel)
set_option maxRecDepth 20000 in
theorem gX3_putQuoted_X6_size : GoodIn wsX3_putQuoted (wsV RX3 82 RX6 yX6_size wsX6_size) := goodIn_app (goodIn_of _ (by decide +kernel)) ggX3_putQuoted_X6_size
set_option maxRecDepth 20000 in
theorem ggX3_putQuoted_X6_at : GoodIn wsX3_putQuoted wsX6_at := goodIn_r _ [10, 6, 11, 21, 22] rfl (by decide +kernel)
set_option maxRecDepth 20000 in
theorem gX3_putQuoted_X6_at : GoodIn wsX3_putQuoted (wsV RX3 86 RX6 yX6_at wsX6_at) := goodIn_app (goodIn_of _ (by decide +kernel)) ggX3_putQuoted_X6_at
set_option maxRecDepth 20000 in
theorem ggX3_putQuoted_X6_put : GoodIn wsX3_putQuoted wsX6_put := goodIn_r _ [15, 6, 11, 16, 17, 18, 19, 20, 21, 22] rfl (by decide +kernel)
set_option maxRecDepth 20000 in
theorem gX3_putQuoted_X6_put : GoodIn wsX3_putQuoted (wsV RX3 35 RX6 yX6_put wsX6_put) := goodIn_app (goodIn_of _ (by decide +kernel)) ggX3_putQuoted_X6_put
set_option maxRecDepth 20000 in
theorem ggX3_putEnd_X3_putGap : GoodIn wsX3_putEnd wsX3_putGap := goodIn_r _ [5, 6, 7, 8, 9, 10, 11, 12, 13, 14, 15, 16, 17, 18, 19, 20, 21, 22, 23, 24, 25, 91, 92] rfl (by decide +kernel)
set_option maxRecDepth 20000 in
theorem gX3_putEnd_X3_putGap : GoodIn wsX3_putEnd (va_wsS RX3 89 yX3_putGap wsX3_putGap) := goodIn_app (goodIn_of _ (by decide +kernel)) ggX3_putEnd_X3_putGap
set_option maxRecDepth 20000 in
theorem ggX3_putEnd_X11_resultSign : GoodIn wsX3_putEnd wsX11_resultSign := goodIn_r _ [28] rfl (by decide +kernel)
set_option maxRecDepth 20000 in
theorem gX3_putEnd_X11_resultSign_n95 : GoodIn wsX3_putEnd (wsX11_resultSign) := ggX3_putEnd_X11_resultSign
set_option maxRecDepth 20000 in
theorem ggX3_putEnd_X6_putText : GoodIn wsX3_putEnd wsX6_putText := goodIn_r _ [32, 33, 34, 35, 36, 37, 38, 39, 40, 41, 42, 43, 44, 45, 46, 47, 48, 49, 50, 51, 52, 53, 54, 55, 56, 57, 58, 59, 60, 61, 62, 63, 64, 65, 66, 67, 68, 69, 70, 71, 72, 73, 74, 75, 76, 77, 78, 79, 80, 81, 82, 18, 19, 9, 20, 11, 16, 21, 22, 23, 24, 25, 91, 92] rfl (by decide +kernel)
set_option maxRecDepth 20000 in
theorem gX3_putEnd_X6_putText : GoodIn wsX3_putEnd (wsV RX3 53 RX6 yX6_putText wsX6_putText) := goodIn_app (goodIn_of _ (by decide +kernel)) ggX3_putEnd_X6_putText
set_option maxRecDepth 20000 in
theorem ggX3_putGap_X6_size : GoodIn wsX3_putGap wsX6_size := goodIn_r _ [5, 6, 21, 22] rfl (by decide +kernel)
set_option maxRecDepth 20000 in
theorem gX3_putGap_X6_size : GoodIn wsX3_putGap (wsV RX3 82 RX6 yX6_size wsX6_size) := goodIn_app (goodIn_of _ (by decide +kernel)) ggX3_putGap_X6_size
set_option maxRecDepth 20000 in
theorem ggX3_putGap_X6_at : GoodIn wsX3_putGap wsX6_at := goodIn_r _ [10, 6, 11, 21, 22] rfl (by decide +kernel)
set_option maxRecDepth 20000 in
theorem gX3_putGap_X6_at : GoodIn wsX3_putGap (wsV RX3 86 RX6 yX6_at wsX6_at) := goodIn_app (goodIn_of _ (by decide +kernel)) ggX3_putGap_X6_at
set_option maxRecDepth 20000 in
theorem ggX3_putGap_X6_put : GoodIn wsX3_putGap wsX6_put := goodIn_r _ [15, 6, 11, 16, 17, 18, 19, 20, 21, 22] rfl (by decide +kernel)
set_option maxRecDepth 20000 in
theorem gX3_putGap_X6_put : GoodIn wsX3_putGap (wsV RX3 35 RX6 yX6_put wsX6_put) := goodIn_app (goodIn_of _ (by decide +kernel)) ggX3_putGap_X6_put
set_option maxRecDepth 20000 in
theorem ggX3_putRemark_X6_size : GoodIn wsX3_putRemark wsX6_size := goodIn_r _ [6, 7, 39, 40] rfl (by decide +kernel)
set_option maxRecDepth 20000 in
theorem gX3_putRemark_X6_size : GoodIn wsX3_putRemark (wsV RX3 82 RX6 yX6_size wsX6_size) := goodIn_app (goodIn_of _ (by decide +kernel)) ggX3_putRemark_X6_size
set_option maxRecDepth 20000 in
theorem ggX3_putRemark_X3_putGap : GoodIn wsX3_putRemark wsX3_putGap := goodIn_r _ [11, 2, 3, 4, 5, 6, 7, 12, 13, 14, 15, 16, 17, 18, 19, 20, 21, 22, 23, 24, 25, 39, 40] rfl (by decide +kernel)
set_option maxRecDepth 20000 in
theorem gX3_putRemark_X3_putGap : GoodIn wsX3_putRemark (va_wsS RX3 89 yX3_putGap wsX3_putGap) := goodIn_app (goodIn_of _ (by decide +kernel)) ggX3_putRemark_X3_putGap
set_option maxRecDepth 20000 in
theorem ggX3_putRemark_X6_put : GoodIn wsX3_putRemark wsX6_put := goodIn_r _ [20, 7, 16, 21, 22, 23, 24, 25, 39, 40] rfl (by decide +kernel)
set_option maxRecDepth 20000 in
theorem gX3_putRemark_X6_put : GoodIn wsX3_putRemark (wsV RX3 35 RX6 yX6_put wsX6_put) := goodIn_app (goodIn_of _ (by decide +kernel)) ggX3_putRemark_X6_put
set_option maxRecDepth 20000 in
theorem ggX3_putRemark_X6_putAll : GoodIn wsX3_putRemark wsX6_putAll := goodIn_r _ [29, 7, 30, 13, 14, 5, 15, 16, 31, 18, 19, 20, 21, 22, 23, 24, 25, 39, 40] rfl (by decide +kernel)
set_option maxRecDepth 20000 in
theorem gX3_putRemark_X6_putAll : GoodIn wsX3_putRemark (wsV RX3 47 RX6 yX6_putAll wsX6_putAll) := goodIn_app (goodIn_of _ (by decide +kernel)) ggX3_putRemark_X6_putAll
set_option maxRecDepth 20000 in
theorem ggX3_putLine_X1_at : GoodIn wsX3_putLine wsX1_at := goodIn_r _ [10, 11, 12, 13, 241, 242, 243, 244, 245, 246, 247, 248] rfl (by decide +kernel)
set_option maxRecDepth 20000 in
theorem gX3_putLine_X1_at : GoodIn wsX3_putLine (wsV RX3 66 RX1 yX1_at wsX1_at) := goodIn_app (goodIn_of _ (by decide +kernel)) ggX3_putLine_X1_at
set_option maxRecDepth 20000 in
theorem ggX3_putLine_X3_putMove : GoodIn wsX3_putLine wsX3_putMove := goodIn_r _ [18, 19, 20, 21, 4, 22, 23, 24, 17, 25, 26, 27, 28, 29, 30, 31, 32, 33, 34, 35, 36, 37, 38, 39, 40, 41, 42, 43, 44, 45, 46, 47, 48, 49, 50, 51, 52, 53, 54, 55, 56, 57, 58, 59, 60, 61, 62, 63, 64, 65, 66, 67, 68, 69, 70, 71, 72, 73, 74, 75, 76, 77, 78, 79, 80, 81, 82, 83, 84, 85, 86, 87, 88, 89, 90, 91, 92, 93, 94, 95, 96, 97, 98, 99, 100, 101, 102, 103, 104, 105, 106, 107, 108, 109, 110, 111, 112, 113, 114, 115, 116, 117, 118, 119, 120, 121, 122, 123, 124, 125, 126, 127, 128, 129, 130, 131, 132, 133, 134, 135, 136, 137, 138, 139, 140, 141, 142, 143, 144, 145, 146, 147, 148, 149, 150, 151, 152, 153, 154, 155, 156, 157, 158, 159, 160, 161, 162, 163, 164, 165, 166, 167, 168, 169, 170, 171, 172, 173, 174, 175, 176, 177, 178, 179, 180, 181, 182, 183, 184, 185, 186, 187, 188, 189, 190, 191, 192, 193, 194, 195, 196, 197, 198, 199, 200, 201, 202, 203, 204, 205, 206, 207, 208, 209, 210, 211, 212, 213, 214, 2, 215, 216, 217, 218, 219, 249, 250, 251, 252, 253, 254, 255, 232, 233, 234, 235, 236, 237, 238, 239, 240, 256, 257, 258, 259, 260] rfl (by decide +kernel)
set_option maxRecDepth 20000 in
theorem gX3_putLine_X3_putMove : GoodIn wsX3_putLine (wsV RX3 104 RX3 yX3_putMove wsX3_putMove) := goodIn_app (goodIn_of _ (by decide +kernel)) ggX3_putLine_X3_putMove
set_option maxRecDepth 20000 in
theorem ggX3_putLine_X6_size : GoodIn wsX3_putLine wsX6_size := goodIn_r _ [30, 31, 256, 257] rfl (by decide +kernel)
set_option maxRecDepth 20000 in
theorem gX3_putLine_X6_size : GoodIn wsX3_putLine (wsV RX3 82 RX6 yX6_size wsX6_size) := goodIn_app (goodIn_of _ (by decide +kernel)) ggX3_putLine_X6_size
set_option maxRecDepth 20000 in
theorem ggX3_putLine_X1_goesOn : GoodIn wsX3_putLine wsX1_goesOn := goodIn_r _ [223, 224, 225, 226, 7, 8, 9, 10, 11, 12, 13, 234, 235, 236, 237, 238, 239, 240, 241, 242, 243, 244, 245, 246, 247, 248] rfl (by decide +kernel)
set_option maxRecDepth 20000 in
theorem gX3_putLine_X1_goesOn : GoodIn wsX3_putLine (wsV RX3 108 RX1 yX1_goesOn wsX1_goesOn) := goodIn_app (goodIn_of _ (by decide +kernel)) ggX3_putLine_X1_goesOn
set_option maxRecDepth 20000 in
theorem ggX3_putLine_X0_copyFrom : GoodIn wsX3_putLine wsX0_copyFrom := goodIn_r _ [171, 115, 172, 43, 44, 45, 173, 174, 140, 155, 145, 175, 249, 250, 251, 252, 253, 254, 255] rfl (by decide +kernel)
set_option maxRecDepth 20000 in
theorem gX3_putLine_X0_copyFrom : GoodIn wsX3_putLine (wsV RX3 78 RX0 yX0_copyFrom wsX0_copyFrom) := goodIn_app (goodIn_of _ (by decide +kernel)) ggX3_putLine_X0_copyFrom
set_option maxRecDepth 20000 in
theorem ggX3_putLine_X3_putGap : GoodIn wsX3_putLine wsX3_putGap := goodIn_r _ [25, 26, 27, 28, 29, 30, 31, 32, 33, 34, 35, 36, 37, 38, 39, 40, 41, 42, 43, 44, 45, 256, 257] rfl (by decide +kernel)
set_option maxRecDepth 20000 in
theorem gX3_putLine_X3_putGap : GoodIn wsX3_putLine (va_wsS RX3 89 yX3_putGap wsX3_putGap) := goodIn_app (goodIn_of _ (by decide +kernel)) ggX3_putLine_X3_putGap
set_option maxRecDepth 20000 in
theorem ggX3_putLine_X6_put : GoodIn wsX3_putLine wsX6_put := goodIn_r _ [40, 31, 36, 41, 42, 43, 44, 45, 256, 257] rfl (by decide +kernel)
set_option maxRecDepth 20000 in
theorem gX3_putLine_X6_put : GoodIn wsX3_putLine (wsV RX3 35 RX6 yX6_put wsX6_put) := goodIn_app (goodIn_of _ (by decide +kernel)) ggX3_putLine_X6_put
set_option maxRecDepth 20000 in
theorem ggX3_putLine_X3_putLine : GoodIn wsX3_putLine wsX3_putLine := goodIn_r _ [0, 1, 2, 3, 4, 5, 6, 7, 8, 9, 10, 11, 12, 13, 14, 15, 16, 17, 18, 19, 20, 21, 22, 23, 24, 25, 26, 27, 28, 29, 30, 31, 32, 33, 34, 35, 36, 37, 38, 39, 40, 41, 42, 43, 44, 45, 46, 47, 48, 49, 50, 51, 52, 53, 54, 55, 56, 57, 58, 59, 60, 61, 62, 63, 64, 65, 66, 67, 68, 69, 70, 71, 72, 73, 74, 75, 76, 77, 78, 79, 80, 81, 82, 83, 84, 85, 86, 87, 88, 89, 90, 91, 92, 93, 94, 95, 96, 97, 98, 99, 100, 101, 102, 103, 104, 105, 106, 107, 108, 109, 110, 111, 112, 113, 114, 115, 116, 117, 118, 119, 120, 121, 122, 123, 124, 125, 126, 127, 128, 129, 130, 131, 132, 133, 134, 135, 136, 137, 138, 139, 140, 141, 142, 143, 144, 145, 146, 147, 148, 149, 150, 151, 152, 153, 154, 155, 156, 157, 158, 159, 160, 161, 162, 163, 164, 165, 166, 167, 168, 169, 170, 171, 172, 173, 174, 175, 176, 177, 178, 179, 180, 181, 182, 183, 184, 185, 186, 187, 188, 189, 190, 191, 192, 193, 194, 195, 196, 197, 198, 199, 200, 201, 202, 203, 204, 205, 206, 207, 208, 209, 210, 211, 212, 213, 214, 215, 216, 217, 218, 219, 220, 221, 222, 223, 224, 225, 226, 227, 228, 229, 230, 231, 232, 233, 234, 235, 236, 237, 238, 239, 240, 241, 242, 243, 244, 245, 246, 247, 248, 249, 250, 251, 252, 253, 254, 255, 256, 257, 258, 259, 260] rfl (by decide +kernel)
set_option maxRecDepth 20000 in
theorem gX3_putLine_X3_putLine : GoodIn wsX3_putLine (wsV RX3 115 RX3 yX3_putLine wsX3_putLine) := goodIn_app (goodIn_of _ (by decide +kernel)) ggX3_putLine_X3_putLine
set_option maxRecDepth 20000 in
theorem ggX3_putLine_X0_play : GoodIn wsX3_putLine wsX0_play := goodIn_r _ [179, 145, 115, 140, 155, 175, 121, 122, 123, 113, 124, 150, 111, 112, 114, 180, 181, 182, 183, 173, 174, 184, 185, 186, 187, 188, 189, 190, 249, 250, 251, 252, 253, 254, 255] rfl (by decide +kernel)
set_option maxRecDepth 20000 in
theorem gX3_putLine_X0_play : GoodIn wsX3_putLine (wsV RX3 122 RX0 yX0_play wsX0_play) := goodIn_app (goodIn_of _ (by decide +kernel)) ggX3_putLine_X0_play
set_option maxRecDepth 20000 in
theorem ggX3_putMove_X3_putGap : GoodIn wsX3_putMove wsX3_putGap := goodIn_r _ [9, 10, 11, 12, 13, 14, 15, 16, 17, 18, 19, 20, 21, 22, 23, 24, 25, 26, 27, 28, 29, 221, 222] rfl (by decide +kernel)
set_option maxRecDepth 20000 in
theorem gX3_putMove_X3_putGap : GoodIn wsX3_putMove (va_wsS RX3 89 yX3_putGap wsX3_putGap) := goodIn_app (goodIn_of _ (by decide +kernel)) ggX3_putMove_X3_putGap
set_option maxRecDepth 20000 in
theorem ggX3_putMove_X6_putNumber : GoodIn wsX3_putMove wsX6_putNumber := goodIn_r _ [33, 34, 22, 23, 13, 24, 15, 20, 25, 26, 27, 28, 29, 221, 222] rfl (by decide +kernel)
set_option maxRecDepth 20000 in
theorem gX3_putMove_X6_putNumber : GoodIn wsX3_putMove (wsV RX3 135 RX6 yX6_putNumber wsX6_putNumber) := goodIn_app (goodIn_of _ (by decide +kernel)) ggX3_putMove_X6_putNumber
set_option maxRecDepth 20000 in
theorem ggX3_putMove_X6_putText : GoodIn wsX3_putMove wsX6_putText := goodIn_r _ [38, 39, 40, 41, 42, 43, 44, 45, 46, 47, 48, 49, 50, 51, 52, 53, 54, 55, 56, 57, 58, 59, 60, 61, 62, 63, 64, 65, 66, 67, 68, 69, 70, 71, 72, 73, 74, 75, 76, 77, 78, 79, 80, 81, 82, 83, 84, 85, 86, 87, 34, 22, 23, 13, 24, 15, 20, 25, 26, 27, 28, 29, 221, 222] rfl (by decide +kernel)
set_option maxRecDepth 20000 in
theorem gX3_putMove_X6_putText : GoodIn wsX3_putMove (wsV RX3 53 RX6 yX6_putText wsX6_putText) := goodIn_app (goodIn_of _ (by decide +kernel)) ggX3_putMove_X6_putText
set_option maxRecDepth 20000 in
theorem ggX3_putMove_X9_putSigns : GoodIn wsX3_putMove wsX9_putSigns := goodIn_r _ [92, 93, 94, 95, 96, 97, 98, 99, 100, 36, 37, 13, 38, 39, 40, 41, 42, 43, 44, 45, 46, 47, 48, 49, 50, 51, 52, 53, 54, 55, 56, 57, 58, 59, 60, 61, 62, 63, 64, 65, 66, 67, 68, 69, 70, 71, 72, 73, 74, 75, 76, 77, 78, 79, 80, 81, 82, 83, 84, 85, 86, 87, 34, 22, 23, 24, 15, 20, 25, 26, 27, 28, 29, 101, 102, 103, 104, 105, 106, 107, 108, 109, 110, 111, 112, 113, 114, 115, 116, 117, 91, 118, 119, 120, 121, 122, 123, 124, 125, 126, 127, 128, 129, 130, 131, 132, 133, 134, 135, 136, 137, 138, 139, 140, 141, 142, 143, 144, 145, 146, 147, 148, 149, 150, 151, 152, 153, 154, 155, 156, 157, 158, 159, 160, 161, 162, 163, 164, 165, 166, 167, 168, 169, 170, 171, 172, 173, 174, 175, 176, 177, 178, 179, 180, 181, 182, 183, 184, 185, 186, 187, 188, 189, 223, 205, 206, 207, 208, 209, 210, 211, 221, 222, 224, 225] rfl (by decide +kernel)
set_option maxRecDepth 20000 in
theorem gX3_putMove_X9_putSigns : GoodIn wsX3_putMove (wsV RX3 142 RX9 yX9_putSigns wsX9_putSigns) := goodIn_app (goodIn_of _ (by decide +kernel)) ggX3_putMove_X9_putSigns
set_option maxRecDepth 20000 in
theorem ggX3_putMove_X6_put : GoodIn wsX3_putMove wsX6_put := goodIn_r _ [24, 15, 20, 25, 26, 27, 28, 29, 221, 222] rfl (by decide +kernel)
set_option maxRecDepth 20000 in
theorem gX3_putMove_X6_put : GoodIn wsX3_putMove (wsV RX3 35 RX6 yX6_put wsX6_put) := goodIn_app (goodIn_of _ (by decide +kernel)) ggX3_putMove_X6_put
set_option maxRecDepth 20000 in
theorem ggX3_putMove_X4_markAt : GoodIn wsX3_putMove wsX4_markAt := goodIn_r _ [194, 195, 214, 215, 216, 217, 218, 219, 220] rfl (by decide +kernel)
set_option maxRecDepth 20000 in
theorem gX3_putMove_X4_markAt : GoodIn wsX3_putMove (wsV RX3 149 RX4 yX4_markAt wsX4_markAt) := goodIn_app (goodIn_of _ (by decide +kernel)) ggX3_putMove_X4_markAt
set_option maxRecDepth 20000 in
theorem ggX3_putMove_X3_putRemark : GoodIn wsX3_putMove wsX3_putRemark := goodIn_r _ [198, 199, 10, 11, 12, 13, 14, 15, 6, 7, 8, 9, 16, 17, 18, 19, 20, 21, 22, 23, 24, 25, 26, 27, 28, 29, 200, 201, 202, 203, 204, 34, 214, 215, 216, 217, 218, 219, 220, 221, 222] rfl (by decide +kernel)
set_option maxRecDepth 20000 in
theorem gX3_putMove_X3_putRemark : GoodIn wsX3_putMove (va_wsS RX3 70 yX3_putRemark wsX3_putRemark) := goodIn_app (goodIn_of _ (by decide +kernel)) ggX3_putMove_X3_putRemark
