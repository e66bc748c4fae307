set_option maxRecDepth 20000 in
theorem ggX2_init_X8_init : GoodIn wsX2_init wsX8_init := goodIn_r _ [33, 34, 2, 3, 35, 36, 37, 38, 39, 13, 14, 40, 24, 41, 42, 43, 44, 45, 30, 31, 46, 47, 48, 49, 50, 51, 52, 53, 54, 55, 56, 57, 58, 59, 60, 61, 62, 63, 154, 155, 111, 112, 113, 114, 115, 116, 117, 118, 119, 120, 121, 122, 137, 138, 147, 148, 149, 150, 151, 152, 153] rfl (by decide +kernel)
set_option maxRecDepth 20000 in
theorem gX2_init_X8_init_n11 : GoodIn wsX2_init (wsX8_init) := ggX2_init_X8_init
set_option maxRecDepth 20000 in
theorem ggX2_init_X5_init : GoodIn wsX2_init wsX5_init := goodIn_r _ [65, 66, 2, 3, 67, 13, 14, 68, 69, 58, 59, 60, 61, 62, 63, 137, 138, 135, 136] rfl (by decide +kernel)
set_option maxRecDepth 20000 in
theorem gX2_init_X5_init_n20 : GoodIn wsX2_init (wsX5_init) := ggX2_init_X5_init
set_option maxRecDepth 20000 in
theorem ggX2_init_X6_init : GoodIn wsX2_init wsX6_init := goodIn_r _ [59, 60, 2, 3, 61, 62, 63, 137, 138] rfl (by decide +kernel)
set_option maxRecDepth 20000 in
theorem gX2_init_X6_init_n27 : GoodIn wsX2_init (wsX6_init) := ggX2_init_X6_init
set_option maxRecDepth 20000 in
theorem ggX2_init_X1_init : GoodIn wsX2_init wsX1_init := goodIn_r _ [72, 73, 2, 3, 74, 30, 31, 75, 76, 77, 78, 79, 80, 81, 82, 83, 84, 85, 24, 86, 48, 49, 50, 51, 52, 53, 54, 55, 56, 57, 87, 88, 89, 90, 91, 92, 93, 94, 95, 96, 13, 14, 97, 58, 59, 60, 61, 62, 63, 98, 99, 100, 101, 102, 103, 104, 105, 106, 107, 108, 109, 110, 147, 148, 149, 150, 151, 152, 153, 139, 140, 141, 142, 143, 144, 145, 146, 156, 157, 158, 159, 160, 161, 162, 137, 138] rfl (by decide +kernel)
set_option maxRecDepth 20000 in
theorem gX2_init_X1_init : GoodIn wsX2_init (wsX1_init) := ggX2_init_X1_init
set_option maxRecDepth 20000 in
theorem ggX2_init_X0_init : GoodIn wsX2_init wsX0_init := goodIn_r _ [49, 50, 2, 3, 24, 51, 52, 53, 54, 55, 56, 57, 147, 148, 149, 150, 151, 152, 153] rfl (by decide +kernel)
set_option maxRecDepth 20000 in
theorem gX2_init_X0_init_n68 : GoodIn wsX2_init (wsX0_init) := ggX2_init_X0_init
set_option maxRecDepth 20000 in
theorem ggX2_begin_X1_wipe : GoodIn wsX2_begin wsX1_wipe := goodIn_r _ [9, 10, 11, 12, 13, 14, 15, 16, 17, 18, 19, 20, 21, 22, 23, 24, 25, 26, 27, 28, 29, 30, 31, 32, 33, 34, 35, 36, 37, 38, 39, 40, 41, 42, 43, 44, 45, 46, 47, 48, 49, 50, 51, 52, 53, 66, 67, 68, 69, 70, 71, 72, 73, 74, 75, 76, 77, 78, 79, 80, 81, 82, 83, 84, 85, 86, 87, 88, 89] rfl (by decide +kernel)
set_option maxRecDepth 20000 in
theorem gX2_begin_X1_wipe : GoodIn wsX2_begin (wsV RX2 69 RX1 yX1_wipe wsX1_wipe) := goodIn_app (goodIn_of _ (by decide +kernel)) ggX2_begin_X1_wipe
set_option maxRecDepth 20000 in
theorem ggX2_skipBlanks_X6_size : GoodIn wsX2_skipBlanks wsX6_size := goodIn_r _ [7, 8, 26, 27] rfl (by decide +kernel)
set_option maxRecDepth 20000 in
theorem gX2_skipBlanks_X6_size : GoodIn wsX2_skipBlanks (wsV RX2 72 RX6 yX6_size wsX6_size) := goodIn_app (goodIn_of _ (by decide +kernel)) ggX2_skipBlanks_X6_size
set_option maxRecDepth 20000 in
theorem ggX2_skipBlanks_X6_at : GoodIn wsX2_skipBlanks wsX6_at := goodIn_r _ [12, 8, 13, 26, 27] rfl (by decide +kernel)
set_option maxRecDepth 20000 in
theorem gX2_skipBlanks_X6_at : GoodIn wsX2_skipBlanks (wsV RX2 76 RX6 yX6_at wsX6_at) := goodIn_app (goodIn_of _ (by decide +kernel)) ggX2_skipBlanks_X6_at
set_option maxRecDepth 20000 in
theorem ggX2_readHead_X2_skipBlanks : GoodIn wsX2_readHead wsX2_skipBlanks := goodIn_r _ [8, 2, 1, 9, 10, 11, 12, 13, 14, 15, 16, 17, 18, 19, 356, 357, 358, 359, 360, 361, 362, 363, 364, 365, 366, 367, 368, 369] rfl (by decide +kernel)
set_option maxRecDepth 20000 in
theorem gX2_readHead_X2_skipBlanks : GoodIn wsX2_readHead (wsV RX2 79 RX2 yX2_skipBlanks wsX2_skipBlanks) := goodIn_app (goodIn_of _ (by decide +kernel)) ggX2_readHead_X2_skipBlanks
set_option maxRecDepth 20000 in
theorem ggX2_readHead_X6_at : GoodIn wsX2_readHead wsX6_at := goodIn_r _ [18, 14, 19, 368, 369] rfl (by decide +kernel)
set_option maxRecDepth 20000 in
theorem gX2_readHead_X6_at : GoodIn wsX2_readHead (wsV RX2 76 RX6 yX6_at wsX6_at) := goodIn_app (goodIn_of _ (by decide +kernel)) ggX2_readHead_X6_at
set_option maxRecDepth 20000 in
theorem ggX2_readHead_X2_readTag : GoodIn wsX2_readHead wsX2_readTag := goodIn_r _ [23, 2, 1, 3, 24, 25, 26, 27, 28, 29, 30, 31, 7, 32, 4, 5, 6, 8, 9, 10, 11, 12, 13, 14, 15, 16, 17, 18, 19, 33, 34, 35, 36, 37, 38, 39, 40, 41, 42, 43, 44, 45, 46, 47, 48, 49, 50, 51, 52, 53, 54, 55, 56, 57, 58, 59, 60, 61, 62, 63, 64, 65, 66, 67, 68, 69, 70, 71, 72, 73, 74, 75, 76, 77, 78, 79, 80, 81, 82, 83, 84, 85, 86, 87, 88, 89, 90, 91, 92, 93, 94, 95, 96, 97, 98, 99, 100, 101, 102, 103, 104, 105, 106, 107, 108, 109, 110, 111, 112, 113, 114, 115, 116, 117, 118, 119, 120, 121, 122, 123, 124, 125, 126, 127, 128, 129, 130, 131, 132, 133, 134, 135, 136, 137, 138, 139, 140, 141, 142, 143, 144, 145, 146, 147, 148, 149, 150, 151, 152, 153, 154, 155, 156, 157, 158, 159, 160, 161, 162, 163, 164, 165, 166, 167, 168, 169, 170, 171, 172, 173, 174, 175, 176, 177, 178, 179, 180, 181, 182, 183, 184, 185, 186, 187, 188, 189, 190, 191, 192, 193, 194, 195, 196, 197, 198, 199, 200, 201, 202, 203, 204, 205, 206, 207, 208, 209, 210, 211, 212, 213, 214, 215, 216, 217, 218, 219, 220, 221, 222, 223, 224, 225, 226, 227, 228, 229, 230, 231, 232, 233, 234, 235, 236, 237, 238, 239, 240, 241, 242, 243, 244, 245, 246, 247, 248, 249, 250, 251, 252, 253, 254, 255, 256, 257, 258, 259, 260, 261, 262, 263, 264, 265, 266, 267, 268, 269, 270, 271, 272, 273, 274, 275, 276, 277, 278, 279, 280, 281, 282, 283, 284, 285, 286, 287, 288, 289, 290, 291, 292, 293, 294, 295, 296, 297, 298, 299, 300, 301, 302, 303, 304, 305, 306, 307, 308, 309, 310, 311, 312, 313, 314, 315, 316, 317, 318, 319, 320, 321, 322, 323, 324, 325, 356, 357, 358, 359, 360, 361, 362, 363, 364, 365, 366, 367, 370, 371, 372, 373, 374, 375, 376, 377, 368, 369, 378, 379, 380, 381, 382, 383, 384, 385, 386, 387, 388] rfl (by decide +kernel)
set_option maxRecDepth 20000 in
theorem gX2_readHead_X2_readTag : GoodIn wsX2_readHead (wsV RX2 82 RX2 yX2_readTag wsX2_readTag) := goodIn_app (goodIn_of _ (by decide +kernel)) ggX2_readHead_X2_readTag
set_option maxRecDepth 20000 in
theorem ggX2_readHead_X1_at : GoodIn wsX2_readHead wsX1_at := goodIn_r _ [329, 330, 331, 332, 370, 371, 372, 373, 374, 375, 376, 377] rfl (by decide +kernel)
set_option maxRecDepth 20000 in
theorem gX2_readHead_X1_at : GoodIn wsX2_readHead (wsV RX2 86 RX1 yX1_at wsX1_at) := goodIn_app (goodIn_of _ (by decide +kernel)) ggX2_readHead_X1_at
set_option maxRecDepth 20000 in
theorem ggX2_readHead_X2_readRemarks : GoodIn wsX2_readHead wsX2_readRemarks := goodIn_r _ [336, 1, 2, 4, 5, 6, 7, 8, 9, 10, 11, 12, 13, 14, 15, 16, 17, 18, 19, 337, 338, 339, 340, 341, 199, 196, 200, 342, 343, 344, 345, 346, 195, 197, 51, 52, 53, 54, 55, 347, 348, 349, 350, 351, 352, 353, 354, 43, 44, 45, 46, 47, 48, 49, 50, 355, 356, 357, 358, 359, 360, 361, 362, 363, 364, 365, 366, 367, 368, 369, 389, 390, 391, 392, 393, 394, 395] rfl (by decide +kernel)
set_option maxRecDepth 20000 in
theorem gX2_readHead_X2_readRemarks : GoodIn wsX2_readHead (wsV RX2 89 RX2 yX2_readRemarks wsX2_readRemarks) := goodIn_app (goodIn_of _ (by decide +kernel)) ggX2_readHead_X2_readRemarks
set_option maxRecDepth 20000 in
theorem ggX2_readTag_X2_readName : GoodIn wsX2_readTag wsX2_readName := goodIn_r _ [13, 1, 5, 2, 14, 15, 16, 12, 17, 18, 19, 20, 21, 22, 23, 24, 25, 26, 27, 28, 29, 30, 31, 32, 33, 34, 35, 36, 37, 38, 39, 40, 41, 42, 43, 44, 45, 46, 47, 48, 49, 50, 51, 322, 323, 324, 325, 326, 327, 328, 329, 330, 331, 332, 333, 342, 343] rfl (by decide +kernel)
set_option maxRecDepth 20000 in
theorem gX2_readTag_X2_readName : GoodIn wsX2_readTag (wsV RX2 93 RX2 yX2_readName wsX2_readName) := goodIn_app (goodIn_of _ (by decide +kernel)) ggX2_readTag_X2_readName
set_option maxRecDepth 20000 in
theorem ggX2_readTag_X2_readValue : GoodIn wsX2_readTag wsX2_readValue := goodIn_r _ [55, 2, 1, 6, 14, 15, 16, 12, 17, 18, 19, 20, 21, 22, 23, 24, 25, 26, 27, 28, 47, 48, 49, 50, 51, 29, 30, 31, 32, 38, 39, 40, 41, 42, 43, 44, 45, 46, 322, 323, 324, 325, 326, 327, 328, 329, 330, 331, 332, 333, 342, 343] rfl (by decide +kernel)
set_option maxRecDepth 20000 in
theorem gX2_readTag_X2_readValue : GoodIn wsX2_readTag (wsV RX2 96 RX2 yX2_readValue wsX2_readValue) := goodIn_app (goodIn_of _ (by decide +kernel)) ggX2_readTag_X2_readValue
set_option maxRecDepth 20000 in
theorem ggX2_readTag_X2_skipBlanks : GoodIn wsX2_readTag wsX2_skipBlanks := goodIn_r _ [17, 1, 2, 18, 19, 20, 21, 22, 23, 24, 25, 26, 27, 28, 322, 323, 324, 325, 326, 327, 328, 329, 330, 331, 332, 333, 342, 343] rfl (by decide +kernel)
set_option maxRecDepth 20000 in
theorem gX2_readTag_X2_skipBlanks : GoodIn wsX2_readTag (wsV RX2 79 RX2 yX2_skipBlanks wsX2_skipBlanks) := goodIn_app (goodIn_of _ (by decide +kernel)) ggX2_readTag_X2_skipBlanks
set_option maxRecDepth 20000 in
theorem ggX2_readTag_X6_at : GoodIn wsX2_readTag wsX6_at := goodIn_r _ [27, 23, 28, 342, 343] rfl (by decide +kernel)
set_option maxRecDepth 20000 in
theorem gX2_readTag_X6_at : GoodIn wsX2_readTag (wsV RX2 76 RX6 yX6_at wsX6_at) := goodIn_app (goodIn_of _ (by decide +kernel)) ggX2_readTag_X6_at
set_option maxRecDepth 20000 in
theorem ggX2_readTag_X2_refuse : GoodIn wsX2_readTag wsX2_refuse := goodIn_r _ [50, 51, 322, 323, 324, 325, 326, 327, 328, 329, 330, 331, 332, 333] rfl (by decide +kernel)
set_option maxRecDepth 20000 in
theorem gX2_readTag_X2_refuse : GoodIn wsX2_readTag (wsV RX2 99 RX2 yX2_refuse wsX2_refuse) := goodIn_app (goodIn_of _ (by decide +kernel)) ggX2_readTag_X2_refuse
set_option maxRecDepth 20000 in
theorem ggX2_readTag_X6_size : GoodIn wsX2_readTag wsX6_size := goodIn_r _ [22, 23, 342, 343] rfl (by decide +kernel)
set_option maxRecDepth 20000 in
theorem gX2_readTag_X6_size : GoodIn wsX2_readTag (wsV RX2 72 RX6 yX6_size wsX6_size) := goodIn_app (goodIn_of _ (by decide +kernel)) ggX2_readTag_X6_size
set_option maxRecDepth 20000 in
theorem ggX2_readTag_X1_hasTag : GoodIn wsX2_readTag wsX1_hasTag := goodIn_r _ [60, 61, 62, 63, 64, 65, 59, 66, 67, 68, 69, 70, 71, 72, 73, 74, 75, 76, 77, 21, 78, 79, 80, 81, 82, 83, 28, 23, 84, 85, 86, 87, 88, 25, 26, 27, 334, 335, 336, 337, 338, 339, 340, 341, 344, 345, 342, 343] rfl (by decide +kernel)
set_option maxRecDepth 20000 in
theorem gX2_readTag_X1_hasTag : GoodIn wsX2_readTag (wsV RX2 106 RX1 yX1_hasTag wsX1_hasTag) := goodIn_app (goodIn_of _ (by decide +kernel)) ggX2_readTag_X1_hasTag
set_option maxRecDepth 20000 in
theorem ggX2_readTag_X6_is : GoodIn wsX2_readTag wsX6_is := goodIn_r _ [92, 23, 93, 94, 95, 96, 97, 98, 99, 100, 101, 102, 103, 104, 105, 106, 107, 21, 108, 28, 109, 110, 111, 112, 113, 114, 115, 116, 117, 118, 119, 120, 121, 122, 123, 124, 125, 126, 127, 128, 129, 130, 131, 132, 133, 134, 135, 136, 137, 138, 139, 140, 141, 142, 143, 144, 145, 342, 343] rfl (by decide +kernel)
set_option maxRecDepth 20000 in
theorem gX2_readTag_X6_is : GoodIn wsX2_readTag (wsV RX2 112 RX6 yX6_is wsX6_is) := goodIn_app (goodIn_of _ (by decide +kernel)) ggX2_readTag_X6_is
set_option maxRecDepth 20000 in
theorem ggX2_readTag_X5_readInto : GoodIn wsX2_readTag wsX5_readInto := goodIn_r _ [150, 151, 152, 153, 154, 155, 156, 157, 158, 159, 160, 161, 162, 163, 164, 165, 149, 166, 167, 168, 169, 170, 171, 25, 26, 21, 27, 23, 28, 172, 173, 174, 175, 176, 34, 177, 33, 35, 178, 179, 180, 96, 181, 182, 183, 184, 185, 98, 113, 114, 115, 116, 103, 104, 186, 94, 95, 97, 99, 100, 101, 102, 187, 188, 119, 189, 190, 191, 192, 193, 194, 195, 196, 197, 198, 199, 200, 201, 202, 203, 204, 131, 205, 206, 207, 208, 209, 210, 211, 212, 213, 214, 136, 137, 138, 215, 216, 217, 124, 218, 219, 127, 220, 221, 222, 223, 140, 141, 142, 143, 144, 145, 224, 225, 226, 227, 228, 229, 230, 231, 232, 233, 234, 235, 236, 237, 238, 239, 240, 241, 242, 243, 244, 245, 246, 247, 248, 249, 250, 251, 252, 253, 254, 255, 256, 110, 111, 112, 117, 118, 120, 121, 122, 123, 125, 126, 128, 129, 130, 132, 133, 134, 135, 139, 257, 258, 259, 260, 261, 262, 263, 264, 265, 266, 267, 268, 269, 270, 271, 36, 37, 272, 273, 274, 275, 276, 277, 19, 20, 22, 278, 279, 280, 281, 282, 283, 284, 285, 286, 287, 288, 289, 290, 291, 292, 293, 294, 295, 296, 297, 298, 299, 300, 301, 302, 303, 304, 305, 306, 307, 346, 347, 348, 349, 350, 351, 352, 353, 354, 342, 343] rfl (by decide +kernel)
set_option maxRecDepth 20000 in
theorem gX2_readTag_X5_readInto : GoodIn wsX2_readTag (wsV RX2 120 RX5 yX5_readInto wsX5_readInto) := goodIn_app (goodIn_of _ (by decide +kernel)) ggX2_readTag_X5_readInto
set_option maxRecDepth 20000 in
theorem ggX2_readTag_X1_putTag : GoodIn wsX2_readTag wsX1_putTag := goodIn_r _ [311, 61, 67, 68, 69, 70, 62, 312, 71, 72, 73, 74, 75, 76, 77, 21, 78, 79, 80, 81, 82, 83, 28, 23, 63, 64, 65, 59, 66, 313, 314, 315, 316, 317, 318, 319, 320, 88, 25, 26, 27, 321, 39, 40, 41, 42, 43, 44, 45, 46, 334, 335, 336, 337, 338, 339, 340, 341, 344, 345, 342, 343] rfl (by decide +kernel)
set_option maxRecDepth 20000 in
theorem gX2_readTag_X1_putTag : GoodIn wsX2_readTag (wsV RX2 124 RX1 yX1_putTag wsX1_putTag) := goodIn_app (goodIn_of _ (by decide +kernel)) ggX2_readTag_X1_putTag
set_option maxRecDepth 20000 in
theorem ggX2_readName_X2_skipBlanks : GoodIn wsX2_readName wsX2_skipBlanks := goodIn_r _ [8, 1, 3, 9, 10, 11, 12, 13, 14, 15, 16, 17, 18, 19, 43, 44, 45, 46, 47, 48, 49, 50, 51, 52, 53, 54, 55, 56] rfl (by decide +kernel)
set_option maxRecDepth 20000 in
theorem gX2_readName_X2_skipBlanks : GoodIn wsX2_readName (wsV RX2 79 RX2 yX2_skipBlanks wsX2_skipBlanks) := goodIn_app (goodIn_of _ (by decide +kernel)) ggX2_readName_X2_skipBlanks
set_option maxRecDepth 20000 in
theorem ggX2_readName_X6_keep : GoodIn wsX2_readName wsX6_keep := goodIn_r _ [23, 14, 55, 56] rfl (by decide +kernel)
set_option maxRecDepth 20000 in
theorem gX2_readName_X6_keep : GoodIn wsX2_readName (wsV RX2 128 RX6 yX6_keep wsX6_keep) := goodIn_app (goodIn_of _ (by decide +kernel)) ggX2_readName_X6_keep
set_option maxRecDepth 20000 in
theorem ggX2_readName_X6_size : GoodIn wsX2_readName wsX6_size := goodIn_r _ [13, 14, 55, 56] rfl (by decide +kernel)
set_option maxRecDepth 20000 in
theorem gX2_readName_X6_size : GoodIn wsX2_readName (wsV RX2 72 RX6 yX6_size wsX6_size) := goodIn_app (goodIn_of _ (by decide +kernel)) ggX2_readName_X6_size
set_option maxRecDepth 20000 in
theorem ggX2_readName_X6_at : GoodIn wsX2_readName wsX6_at := goodIn_r _ [18, 14, 19, 55, 56] rfl (by decide +kernel)
set_option maxRecDepth 20000 in
theorem gX2_readName_X6_at : GoodIn wsX2_readName (wsV RX2 76 RX6 yX6_at wsX6_at) := goodIn_app (goodIn_of _ (by decide +kernel)) ggX2_readName_X6_at
set_option maxRecDepth 20000 in
theorem ggX2_readName_X11_isLetter : GoodIn wsX2_readName wsX11_isLetter := goodIn_r _ [26] rfl (by decide +kernel)
set_option maxRecDepth 20000 in
theorem gX2_readName_X11_isLetter_n132 : GoodIn wsX2_readName (wsX11_isLetter) := ggX2_readName_X11_isLetter
set_option maxRecDepth 20000 in
theorem ggX2_readName_X11_isDigit : GoodIn wsX2_readName wsX11_isDigit := goodIn_r _ [28] rfl (by decide +kernel)
set_option maxRecDepth 20000 in
theorem gX2_readName_X11_isDigit_n136 : GoodIn wsX2_readName (wsX11_isDigit) := ggX2_readName_X11_isDigit
set_option maxRecDepth 20000 in
theorem ggX2_readName_X6_put : GoodIn wsX2_readName wsX6_put := goodIn_r _ [32, 14, 19, 33, 34, 35, 36, 37, 55, 56] rfl (by decide +kernel)
set_option maxRecDepth 20000 in
theorem gX2_readName_X6_put : GoodIn wsX2_readName (wsV RX2 139 RX6 yX6_put wsX6_put) := goodIn_app (goodIn_of _ (by decide +kernel)) ggX2_readName_X6_put
set_option maxRecDepth 20000 in
theorem ggX2_readName_X2_refuse : GoodIn wsX2_readName wsX2_refuse := goodIn_r _ [41, 42, 43, 44, 45, 46, 47, 48, 49, 50, 51, 52, 53, 54] rfl (by decide +kernel)
set_option maxRecDepth 20000 in
theorem gX2_readName_X2_refuse : GoodIn wsX2_readName (wsV RX2 99 RX2 yX2_refuse wsX2_refuse) := goodIn_app (goodIn_of _ (by decide +kernel)) ggX2_readName_X2_refuse
set_option maxRecDepth 20000 in
theorem ggX2_readValue_X2_skipBlanks : GoodIn wsX2_readValue wsX2_skipBlanks := goodIn_r _ [8, 2, 1, 9, 10, 11, 12, 13, 14, 15, 16, 17, 18, 19, 38, 39, 40, 41, 42, 43, 44, 45, 46, 47, 48, 49, 50, 51] rfl (by decide +kernel)
set_option maxRecDepth 20000 in
theorem gX2_readValue_X2_skipBlanks : GoodIn wsX2_readValue (wsV RX2 79 RX2 yX2_skipBlanks wsX2_skipBlanks) := goodIn_app (goodIn_of _ (by decide +kernel)) ggX2_readValue_X2_skipBlanks
set_option maxRecDepth 20000 in
theorem ggX2_readValue_X6_at : GoodIn wsX2_readValue wsX6_at := goodIn_r _ [18, 14, 19, 50, 51] rfl (by decide +kernel)
set_option maxRecDepth 20000 in
theorem gX2_readValue_X6_at : GoodIn wsX2_readValue (wsV RX2 76 RX6 yX6_at wsX6_at) := goodIn_app (goodIn_of _ (by decide +kernel)) ggX2_readValue_X6_at
set_option maxRecDepth 20000 in
theorem ggX2_readValue_X2_refuse : GoodIn wsX2_readValue wsX2_refuse := goodIn_r _ [23, 24, 38, 39, 40, 41, 42, 43, 44, 45, 46, 47, 48, 49] rfl (by decide +kernel)
set_option maxRecDepth 20000 in
theorem gX2_readValue_X2_refuse : GoodIn wsX2_readValue (wsV RX2 99 RX2 yX2_refuse wsX2_refuse) := goodIn_app (goodIn_of _ (by decide +kernel)) ggX2_readValue_X2_refuse
set_option maxRecDepth 20000 in
theorem ggX2_readValue_X6_keep : GoodIn wsX2_readValue wsX6_keep := goodIn_r _ [28, 14, 50, 51] rfl (by decide +kernel)
set_option maxRecDepth 20000 in
theorem gX2_readValue_X6_keep : GoodIn wsX2_readValue (wsV RX2 128 RX6 yX6_keep wsX6_keep) := goodIn_app (goodIn_of _ (by decide +kernel)) ggX2_readValue_X6_keep
set_option maxRecDepth 20000 in
theorem ggX2_readValue_X6_size : GoodIn wsX2_readValue wsX6_size := goodIn_r _ [13, 14, 50, 51] rfl (by decide +kernel)
set_option maxRecDepth 20000 in
theorem gX2_readValue_X6_size : GoodIn wsX2_readValue (wsV RX2 72 RX6 yX6_size wsX6_size) := goodIn_app (goodIn_of _ (by decide +kernel)) ggX2_readValue_X6_size
set_option maxRecDepth 20000 in
theorem ggX2_readValue_X6_put : GoodIn wsX2_readValue wsX6_put := goodIn_r _ [32, 14, 19, 33, 34, 35, 36, 37, 50, 51] rfl (by decide +kernel)
set_option maxRecDepth 20000 in
theorem gX2_readValue_X6_put : GoodIn wsX2_readValue (wsV RX2 139 RX6 yX6_put wsX6_put) := goodIn_app (goodIn_of _ (by decide +kernel)) ggX2_readValue_X6_put
set_option maxRecDepth 20000 in
theorem ggX2_readRemarks_X2_skipBlanks : GoodIn wsX2_readRemarks wsX2_skipBlanks := goodIn_r _ [7, 2, 1, 8, 9, 10, 11, 12, 13, 14, 15, 16, 17, 18, 56, 57, 58, 59, 60, 61, 62, 63, 64, 65, 66, 67, 68, 69] rfl (by decide +kernel)
set_option maxRecDepth 20000 in
theorem gX2_readRemarks_X2_skipBlanks : GoodIn wsX2_readRemarks (wsV RX2 79 RX2 yX2_skipBlanks wsX2_skipBlanks) := goodIn_app (goodIn_of _ (by decide +kernel)) ggX2_readRemarks_X2_skipBlanks
set_option maxRecDepth 20000 in
theorem ggX2_readRemarks_X6_at : GoodIn wsX2_readRemarks wsX6_at := goodIn_r _ [17, 13, 18, 68, 69] rfl (by decide +kernel)
set_option maxRecDepth 20000 in
theorem gX2_readRemarks_X6_at : GoodIn wsX2_readRemarks (wsV RX2 76 RX6 yX6_at wsX6_at) := goodIn_app (goodIn_of _ (by decide +kernel)) ggX2_readRemarks_X6_at
set_option maxRecDepth 20000 in
theorem ggX2_readRemarks_X2_readRemark : GoodIn wsX2_readRemarks wsX2_readRemark := goodIn_r _ [22, 2, 1, 23, 24, 25, 26, 14, 15, 16, 11, 17, 13, 18, 27, 28, 29, 30, 31, 32, 33, 8, 9, 10, 12, 34, 35, 36, 6, 37, 38, 39, 40, 41, 42, 43, 44, 45, 46, 47, 48, 49, 50, 51, 52, 53, 54, 55, 56, 57, 58, 59, 60, 61, 62, 63, 64, 65, 66, 67, 68, 69, 70, 71, 72, 73, 74, 75, 76] rfl (by decide +kernel)
set_option maxRecDepth 20000 in
theorem gX2_readRemarks_X2_readRemark : GoodIn wsX2_readRemarks (wsV RX2 143 RX2 yX2_readRemark wsX2_readRemark) := goodIn_app (goodIn_of _ (by decide +kernel)) ggX2_readRemarks_X2_readRemark
set_option maxRecDepth 20000 in
theorem ggX2_readRemark_X6_at : GoodIn wsX2_readRemark wsX6_at := goodIn_r _ [11, 12, 13, 60, 61] rfl (by decide +kernel)
set_option maxRecDepth 20000 in
theorem gX2_readRemark_X6_at : GoodIn wsX2_readRemark (wsV RX2 76 RX6 yX6_at wsX6_at) := goodIn_app (goodIn_of _ (by decide +kernel)) ggX2_readRemark_X6_at
set_option maxRecDepth 20000 in
theorem ggX2_readRemark_X6_indexOf : GoodIn wsX2_readRemark wsX6_indexOf := goodIn_r _ [17, 18, 19, 5, 20, 12, 13, 60, 61] rfl (by decide +kernel)
set_option maxRecDepth 20000 in
theorem gX2_readRemark_X6_indexOf : GoodIn wsX2_readRemark (wsV RX2 146 RX6 yX6_indexOf wsX6_indexOf) := goodIn_app (goodIn_of _ (by decide +kernel)) ggX2_readRemark_X6_indexOf
set_option maxRecDepth 20000 in
theorem ggX2_readRemark_X6_size : GoodIn wsX2_readRemark wsX6_size := goodIn_r _ [24, 12, 60, 61] rfl (by decide +kernel)
set_option maxRecDepth 20000 in
theorem gX2_readRemark_X6_size : GoodIn wsX2_readRemark (wsV RX2 72 RX6 yX6_size wsX6_size) := goodIn_app (goodIn_of _ (by decide +kernel)) ggX2_readRemark_X6_size
set_option maxRecDepth 20000 in
theorem ggX2_readRemark_X2_refuse : GoodIn wsX2_readRemark wsX2_refuse := goodIn_r _ [29, 30, 48, 49, 50, 51, 52, 53, 54, 55, 56, 57, 58, 59] rfl (by decide +kernel)
set_option maxRecDepth 20000 in
theorem gX2_readRemark_X2_refuse : GoodIn wsX2_readRemark (wsV RX2 99 RX2 yX2_refuse wsX2_refuse) := goodIn_app (goodIn_of _ (by decide +kernel)) ggX2_readRemark_X2_refuse
set_option maxRecDepth 20000 in
theorem ggX2_readRemark_X4_joinRemark : GoodIn wsX2_readRemark wsX4_joinRemark := goodIn_r _ [35, 36, 37, 22, 23, 10, 24, 12, 38, 39, 40, 41, 13, 42, 43, 44, 45, 46, 47, 8, 9, 11, 62, 63, 64, 65, 66, 67, 68, 60, 61] rfl (by decide +kernel)
set_option maxRecDepth 20000 in
theorem gX2_readRemark_X4_joinRemark : GoodIn wsX2_readRemark (wsV RX2 150 RX4 yX4_joinRemark wsX4_joinRemark) := goodIn_app (goodIn_of _ (by decide +kernel)) ggX2_readRemark_X4_joinRemark
set_option maxRecDepth 20000 in
theorem ggX2_readMoves_X0_copyFrom : GoodIn wsX2_readMoves wsX0_copyFrom := goodIn_r _ [12, 13, 14, 15, 16, 17, 18, 19, 20, 21, 22, 23, 443, 444, 445, 446, 447, 448, 449] rfl (by decide +kernel)
set_option maxRecDepth 20000 in
theorem gX2_readMoves_X0_copyFrom : GoodIn wsX2_readMoves (wsV RX2 162 RX0 yX0_copyFrom wsX0_copyFrom) := goodIn_app (goodIn_of _ (by decide +kernel)) ggX2_readMoves_X0_copyFrom
set_option maxRecDepth 20000 in
theorem ggX2_readMoves_X2_skipBlanks : GoodIn wsX2_readMoves wsX2_skipBlanks := goodIn_r _ [28, 7, 6, 29, 30, 31, 32, 33, 34, 35, 36, 37, 38, 39, 423, 424, 425, 426, 427, 428, 429, 430, 431, 432, 433, 434, 450, 451] rfl (by decide +kernel)
set_option maxRecDepth 20000 in
theorem gX2_readMoves_X2_skipBlanks : GoodIn wsX2_readMoves (wsV RX2 79 RX2 yX2_skipBlanks wsX2_skipBlanks) := goodIn_app (goodIn_of _ (by decide +kernel)) ggX2_readMoves_X2_skipBlanks
set_option maxRecDepth 20000 in
theorem ggX2_readMoves_X2_resultHere : GoodIn wsX2_readMoves wsX2_resultHere := goodIn_r _ [43, 6, 7, 44, 45, 46, 47, 48, 49, 32, 50, 34, 39, 51, 52, 53, 54, 55, 56, 57, 58, 59, 60, 61, 62, 63, 64, 65, 66, 67, 68, 69, 70, 71, 72, 73, 74, 75, 76, 77, 78, 79, 80, 81, 82, 83, 84, 85, 86, 87, 88, 89, 90, 91, 92, 93, 94, 95, 96, 97, 98, 99, 423, 424, 425, 426, 427, 428, 429, 430, 431, 432, 433, 434, 450, 451] rfl (by decide +kernel)
set_option maxRecDepth 20000 in
theorem gX2_readMoves_X2_resultHere : GoodIn wsX2_readMoves (wsV RX2 166 RX2 yX2_resultHere wsX2_resultHere) := goodIn_app (goodIn_of _ (by decide +kernel)) ggX2_readMoves_X2_resultHere
set_option maxRecDepth 20000 in
theorem ggX2_readMoves_X6_at : GoodIn wsX2_readMoves wsX6_at := goodIn_r _ [38, 34, 39, 450, 451] rfl (by decide +kernel)
set_option maxRecDepth 20000 in
theorem gX2_readMoves_X6_at : GoodIn wsX2_readMoves (wsV RX2 76 RX6 yX6_at wsX6_at) := goodIn_app (goodIn_of _ (by decide +kernel)) ggX2_readMoves_X6_at
set_option maxRecDepth 20000 in
theorem ggX2_readMoves_X2_refuse : GoodIn wsX2_readMoves wsX2_refuse := goodIn_r _ [103, 104, 423, 424, 425, 426, 427, 428, 429, 430, 431, 432, 433, 434] rfl (by decide +kernel)
set_option maxRecDepth 20000 in
theorem gX2_readMoves_X2_refuse : GoodIn wsX2_readMoves (wsV RX2 99 RX2 yX2_refuse wsX2_refuse) := goodIn_app (goodIn_of _ (by decide +kernel)) ggX2_readMoves_X2_refuse
set_option maxRecDepth 20000 in
theorem ggX2_readMoves_X2_openLine : GoodIn wsX2_readMoves wsX2_openLine := goodIn_r _ [108, 1, 4, 2, 109, 3, 110, 7, 111, 112, 113, 114, 115, 116, 117, 118, 8, 9, 10, 11, 12, 13, 14, 15, 16, 17, 18, 19, 20, 21, 22, 23, 423, 424, 425, 426, 427, 428, 429, 430, 431, 432, 433, 434, 452, 453, 454, 455, 456, 457, 458, 435, 436, 437, 438, 439, 440, 441, 442, 443, 444, 445, 446, 447, 448, 449] rfl (by decide +kernel)
set_option maxRecDepth 20000 in
theorem gX2_readMoves_X2_openLine : GoodIn wsX2_readMoves (wsV RX2 169 RX2 yX2_openLine wsX2_openLine) := goodIn_app (goodIn_of _ (by decide +kernel)) ggX2_readMoves_X2_openLine
set_option maxRecDepth 20000 in
theorem ggX2_readMoves_X1_at : GoodIn wsX2_readMoves wsX1_at := goodIn_r _ [115, 116, 117, 118, 435, 436, 437, 438, 439, 440, 441, 442] rfl (by decide +kernel)
set_option maxRecDepth 20000 in
theorem gX2_readMoves_X1_at : GoodIn wsX2_readMoves (wsV RX2 86 RX1 yX1_at wsX1_at) := goodIn_app (goodIn_of _ (by decide +kernel)) ggX2_readMoves_X1_at
set_option maxRecDepth 20000 in
theorem ggX2_readMoves_X2_readRemarks : GoodIn wsX2_readMoves wsX2_readRemarks := goodIn_r _ [122, 6, 7, 24, 25, 26, 27, 28, 29, 30, 31, 32, 33, 34, 35, 36, 37, 38, 39, 123, 124, 125, 126, 127, 128, 129, 130, 131, 132, 133, 134, 135, 136, 137, 100, 101, 102, 103, 104, 138, 139, 140, 141, 142, 143, 144, 145, 146, 147, 148, 149, 150, 15, 16, 17, 151, 423, 424, 425, 426, 427, 428, 429, 430, 431, 432, 433, 434, 450, 451, 452, 453, 454, 455, 456, 457, 458] rfl (by decide +kernel)
set_option maxRecDepth 20000 in
theorem gX2_readMoves_X2_readRemarks : GoodIn wsX2_readMoves (wsV RX2 89 RX2 yX2_readRemarks wsX2_readRemarks) := goodIn_app (goodIn_of _ (by decide +kernel)) ggX2_readMoves_X2_readRemarks
set_option maxRecDepth 20000 in
theorem ggX2_readMoves_X2_readMove : GoodIn wsX2_readMoves wsX2_readMove := goodIn_r _ [155, 3, 6, 7, 156, 157, 4, 2, 110, 35, 36, 37, 32, 38, 34, 39, 158, 45, 159, 160, 161, 162, 27, 163, 164, 165, 166, 167, 29, 30, 31, 33, 24, 25, 26, 28, 100, 101, 102, 103, 104, 168, 169, 170, 171, 172, 173, 174, 175, 176, 177, 178, 179, 180, 181, 182, 183, 184, 185, 186, 187, 188, 189, 190, 191, 192, 193, 194, 195, 196, 197, 198, 146, 147, 148, 149, 150, 15, 16, 17, 199, 200, 201, 202, 203, 204, 205, 206, 207, 208, 209, 210, 51, 52, 53, 54, 55, 56, 57, 58, 59, 60, 61, 62, 211, 48, 49, 50, 63, 64, 65, 66, 67, 68, 69, 70, 71, 72, 73, 74, 75, 76, 77, 78, 79, 80, 81, 82, 83, 84, 85, 86, 87, 88, 89, 90, 91, 92, 93, 94, 95, 96, 97, 98, 99, 212, 213, 214, 215, 216, 217, 218, 219, 220, 221, 222, 223, 224, 225, 226, 136, 129, 137, 227, 128, 130, 228, 229, 230, 231, 232, 233, 234, 235, 236, 237, 238, 239, 240, 241, 242, 243, 244, 245, 246, 247, 248, 249, 250, 251, 252, 253, 254, 255, 256, 257, 258, 259, 260, 261, 262, 263, 264, 265, 266, 267, 268, 269, 270, 271, 272, 273, 274, 275, 276, 277, 278, 279, 280, 281, 282, 283, 284, 285, 286, 287, 288, 289, 290, 291, 11, 292, 13, 293, 294, 295, 296, 297, 298, 299, 300, 301, 302, 303, 304, 305, 306, 307, 308, 309, 310, 311, 312, 313, 20, 314, 315, 316, 317, 22, 318, 319, 320, 321, 322, 323, 324, 325, 326, 21, 327, 328, 329, 330, 331, 332, 333, 334, 335, 336, 337, 338, 339, 9, 10, 12, 14, 18, 19, 23, 340, 341, 342, 343, 344, 345, 346, 347, 348, 349, 350, 351, 352, 353, 354, 355, 356, 357, 358, 359, 360, 361, 362, 363, 364, 365, 366, 367, 368, 369, 370, 371, 372, 114, 373, 374, 375, 376, 377, 112, 113, 115, 116, 117, 118, 378, 379, 380, 381, 382, 383, 141, 384, 385, 386, 387, 388, 389, 390, 391, 392, 393, 394, 395, 396, 143, 397, 398, 399, 400, 401, 402, 403, 404, 405, 8, 406, 111, 407, 408, 409, 410, 411, 412, 413, 414, 415, 416, 417, 418, 419, 420, 421, 422, 119, 120, 121, 122, 123, 124, 125, 126, 127, 131, 132, 133, 134, 135, 138, 139, 140, 142, 144, 145, 151, 423, 424, 425, 426, 427, 428, 429, 430, 431, 432, 433, 434, 443, 444, 445, 446, 447, 448, 449, 450, 451, 459, 460, 461, 462, 463, 464, 465, 466, 467, 468, 469, 470, 471, 472, 452, 453, 454, 455, 456, 457, 458, 435, 436, 437, 438, 439, 440, 441, 442] rfl (by decide +kernel)
set_option maxRecDepth 20000 in
theorem gX2_readMoves_X2_readMove : GoodIn wsX2_readMoves (wsV RX2 172 RX2 yX2_readMove wsX2_readMove) := goodIn_app (goodIn_of _ (by decide +kernel)) ggX2_readMoves_X2_readMove
set_option maxRecDepth 20000 in
theorem ggX2_openLine_X1_at : GoodIn wsX2_openLine wsX1_at := goodIn_r _ [12, 13, 14, 15, 51, 52, 53, 54, 55, 56, 57, 58] rfl (by decide +kernel)
set_option maxRecDepth 20000 in
theorem gX2_openLine_X1_at : GoodIn wsX2_openLine (wsV RX2 86 RX1 yX1_at wsX1_at) := goodIn_app (goodIn_of _ (by decide +kernel)) ggX2_openLine_X1_at
set_option maxRecDepth 20000 in
theorem ggX2_openLine_X0_copyFrom : GoodIn wsX2_openLine wsX0_copyFrom := goodIn_r _ [20, 21, 22, 23, 24, 25, 26, 27, 28, 29, 30, 31, 59, 60, 61, 62, 63, 64, 65] rfl (by decide +kernel)
set_option maxRecDepth 20000 in
theorem gX2_openLine_X0_copyFrom : GoodIn wsX2_openLine (wsV RX2 162 RX0 yX0_copyFrom wsX0_copyFrom) := goodIn_app (goodIn_of _ (by decide +kernel)) ggX2_openLine_X0_copyFrom
set_option maxRecDepth 20000 in
theorem ggX2_readMove_X6_at : GoodIn wsX2_readMove wsX6_at := goodIn_r _ [13, 14, 15, 424, 425] rfl (by decide +kernel)
set_option maxRecDepth 20000 in
theorem gX2_readMove_X6_at : GoodIn wsX2_readMove (wsV RX2 76 RX6 yX6_at wsX6_at) := goodIn_app (goodIn_of _ (by decide +kernel)) ggX2_readMove_X6_at
set_option maxRecDepth 20000 in
theorem ggX2_readMove_X11_isDigit : GoodIn wsX2_readMove wsX11_isDigit := goodIn_r _ [18] rfl (by decide +kernel)
set_option maxRecDepth 20000 in
theorem gX2_readMove_X11_isDigit_n136 : GoodIn wsX2_readMove (wsX11_isDigit) := ggX2_readMove_X11_isDigit
set_option maxRecDepth 20000 in
theorem ggX2_readMove_X2_readNumber : GoodIn wsX2_readMove wsX2_readNumber := goodIn_r _ [23, 3, 2, 24, 25, 26, 22, 27, 9, 10, 11, 12, 13, 14, 15, 16, 17, 18, 28, 29, 30, 31, 32, 33, 34, 35, 36, 37, 38, 39, 40, 405, 406, 407, 408, 409, 410, 411, 412, 413, 414, 415, 416, 424, 425] rfl (by decide +kernel)
set_option maxRecDepth 20000 in
theorem gX2_readMove_X2_readNumber : GoodIn wsX2_readMove (wsV RX2 182 RX2 yX2_readNumber wsX2_readNumber) := goodIn_app (goodIn_of _ (by decide +kernel)) ggX2_readMove_X2_readNumber
set_option maxRecDepth 20000 in
theorem ggX2_readMove_X11_isLetter : GoodIn wsX2_readMove wsX11_isLetter := goodIn_r _ [42] rfl (by decide +kernel)
set_option maxRecDepth 20000 in
theorem gX2_readMove_X11_isLetter_n132 : GoodIn wsX2_readMove (wsX11_isLetter) := ggX2_readMove_X11_isLetter
set_option maxRecDepth 20000 in
theorem ggX2_readMove_X2_refuse : GoodIn wsX2_readMove wsX2_refuse := goodIn_r _ [39, 40, 405, 406, 407, 408, 409, 410, 411, 412, 413, 414, 415, 416] rfl (by decide +kernel)
set_option maxRecDepth 20000 in
theorem gX2_readMove_X2_refuse : GoodIn wsX2_readMove (wsV RX2 99 RX2 yX2_refuse wsX2_refuse) := goodIn_app (goodIn_of _ (by decide +kernel)) ggX2_readMove_X2_refuse
set_option maxRecDepth 20000 in
theorem ggX2_readMove_X2_skipSigns : GoodIn wsX2_readMove wsX2_skipSigns := goodIn_r _ [46, 3, 2, 28, 29, 30, 12, 31, 14, 9, 10, 11, 13, 15, 47, 48, 22, 49, 41, 17, 42, 16, 18, 405, 406, 407, 408, 409, 410, 411, 412, 413, 414, 415, 416, 424, 425] rfl (by decide +kernel)
set_option maxRecDepth 20000 in
theorem gX2_readMove_X2_skipSigns : GoodIn wsX2_readMove (wsV RX2 185 RX2 yX2_skipSigns wsX2_skipSigns) := goodIn_app (goodIn_of _ (by decide +kernel)) ggX2_readMove_X2_skipSigns
set_option maxRecDepth 20000 in
theorem ggX2_readMove_X8_matched : GoodIn wsX2_readMove wsX8_matched := goodIn_r _ [54, 55, 56, 57, 58, 59, 60, 61, 62, 53, 63, 64, 65, 66, 67, 12, 68, 14, 69, 29, 30, 31, 70, 10, 11, 13, 15, 71, 72, 73, 74, 75, 76, 77, 78, 79, 80, 81, 82, 83, 84, 85, 86, 87, 88, 89, 90, 91, 92, 93, 94, 95, 96, 97, 98, 99, 100, 101, 102, 103, 104, 105, 106, 107, 108, 109, 110, 111, 112, 113, 114, 115, 116, 117, 118, 119, 120, 121, 122, 123, 124, 125, 126, 127, 128, 129, 130, 131, 132, 133, 134, 135, 136, 137, 138, 139, 140, 141, 142, 143, 144, 145, 17, 146, 147, 148, 149, 150, 151, 152, 153, 154, 155, 156, 157, 158, 159, 160, 161, 162, 163, 164, 165, 166, 167, 168, 169, 170, 171, 172, 173, 174, 175, 176, 177, 178, 179, 180, 181, 182, 183, 184, 185, 186, 187, 188, 189, 190, 191, 192, 193, 194, 195, 196, 197, 198, 199, 200, 201, 202, 203, 204, 205, 206, 207, 208, 209, 210, 211, 212, 213, 214, 215, 216, 217, 218, 219, 220, 221, 222, 223, 224, 225, 226, 227, 228, 229, 230, 231, 232, 233, 234, 235, 236, 237, 238, 239, 240, 241, 242, 243, 244, 245, 246, 247, 248, 249, 250, 251, 252, 253, 254, 255, 256, 257, 258, 259, 260, 261, 262, 263, 264, 265, 266, 267, 268, 269, 270, 271, 272, 273, 274, 275, 276, 277, 278, 279, 280, 281, 282, 283, 284, 285, 286, 287, 288, 289, 290, 291, 292, 293, 294, 295, 296, 297, 298, 299, 300, 301, 302, 303, 304, 305, 306, 307, 308, 309, 310, 311, 312, 313, 314, 315, 316, 317, 318, 319, 426, 427, 428, 429, 430, 431, 432, 433, 434, 435, 436, 437, 424, 425, 417, 418, 419, 420, 421, 422, 423, 438, 439] rfl (by decide +kernel)
set_option maxRecDepth 20000 in
theorem gX2_readMove_X8_matched : GoodIn wsX2_readMove (wsV RX2 188 RX8 yX8_matched wsX8_matched) := goodIn_app (goodIn_of _ (by decide +kernel)) ggX2_readMove_X8_matched
set_option maxRecDepth 20000 in
theorem ggX2_readMove_X1_childWith : GoodIn wsX2_readMove wsX1_childWith := goodIn_r _ [324, 325, 326, 327, 328, 329, 330, 323, 331, 332, 333, 334, 440, 441, 442, 443, 444, 445, 446, 447, 448, 449, 450, 451, 452, 453, 454] rfl (by decide +kernel)
set_option maxRecDepth 20000 in
theorem gX2_readMove_X1_childWith : GoodIn wsX2_readMove (wsV RX2 192 RX1 yX1_childWith wsX1_childWith) := goodIn_app (goodIn_of _ (by decide +kernel)) ggX2_readMove_X1_childWith
set_option maxRecDepth 20000 in
theorem ggX2_readMove_X1_grow : GoodIn wsX2_readMove wsX1_grow := goodIn_r _ [338, 332, 325, 327, 333, 339, 340, 341, 328, 329, 330, 323, 331, 334, 342, 343, 344, 345, 346, 347, 348, 349, 350, 351, 352, 353, 354, 12, 355, 356, 357, 358, 359, 15, 14, 360, 361, 362, 363, 364, 66, 67, 68, 447, 448, 449, 450, 451, 452, 453, 454, 440, 441, 442, 443, 444, 445, 446, 424, 425] rfl (by decide +kernel)
set_option maxRecDepth 20000 in
theorem gX2_readMove_X1_grow : GoodIn wsX2_readMove (wsV RX2 195 RX1 yX1_grow wsX1_grow) := goodIn_app (goodIn_of _ (by decide +kernel)) ggX2_readMove_X1_grow
set_option maxRecDepth 20000 in
theorem ggX2_readMove_X0_copyFrom : GoodIn wsX2_readMove wsX0_copyFrom := goodIn_r _ [285, 232, 286, 77, 78, 79, 287, 288, 254, 269, 259, 289, 417, 418, 419, 420, 421, 422, 423] rfl (by decide +kernel)
set_option maxRecDepth 20000 in
theorem gX2_readMove_X0_copyFrom : GoodIn wsX2_readMove (wsV RX2 162 RX0 yX0_copyFrom wsX0_copyFrom) := goodIn_app (goodIn_of _ (by decide +kernel)) ggX2_readMove_X0_copyFrom
set_option maxRecDepth 20000 in
theorem ggX2_readMove_X0_play : GoodIn wsX2_readMove wsX0_play := goodIn_r _ [293, 259, 232, 254, 269, 289, 242, 243, 244, 230, 245, 264, 228, 229, 231, 294, 295, 296, 297, 287, 288, 298, 299, 300, 301, 302, 303, 304, 417, 418, 419, 420, 421, 422, 423] rfl (by decide +kernel)
set_option maxRecDepth 20000 in
theorem gX2_readMove_X0_play : GoodIn wsX2_readMove (wsV RX2 198 RX0 yX0_play wsX0_play) := goodIn_app (goodIn_of _ (by decide +kernel)) ggX2_readMove_X0_play
set_option maxRecDepth 20000 in
theorem ggX2_readMove_X1_at : GoodIn wsX2_readMove wsX1_at := goodIn_r _ [331, 332, 333, 334, 447, 448, 449, 450, 451, 452, 453, 454] rfl (by decide +kernel)
set_option maxRecDepth 20000 in
theorem gX2_readMove_X1_at : GoodIn wsX2_readMove (wsV RX2 86 RX1 yX1_at wsX1_at) := goodIn_app (goodIn_of _ (by decide +kernel)) ggX2_readMove_X1_at
set_option maxRecDepth 20000 in
theorem ggX2_readMove_X2_readMarks : GoodIn wsX2_readMove wsX2_readMarks := goodIn_r _ [371, 2, 3, 32, 33, 34, 22, 35, 28, 29, 30, 12, 31, 14, 9, 10, 11, 13, 15, 372, 373, 374, 375, 376, 377, 341, 378, 352, 351, 379, 380, 381, 382, 383, 24, 25, 26, 27, 16, 17, 18, 36, 37, 38, 39, 40, 405, 406, 407, 408, 409, 410, 411, 412, 413, 414, 415, 416, 424, 425, 440, 441, 442, 443, 444, 445, 446] rfl (by decide +kernel)
set_option maxRecDepth 20000 in
theorem gX2_readMove_X2_readMarks : GoodIn wsX2_readMove (wsV RX2 201 RX2 yX2_readMarks wsX2_readMarks) := goodIn_app (goodIn_of _ (by decide +kernel)) ggX2_readMove_X2_readMarks
set_option maxRecDepth 20000 in
theorem ggX2_readMove_X2_readRemarks : GoodIn wsX2_readMove wsX2_readRemarks := goodIn_r _ [387, 2, 3, 32, 33, 34, 22, 35, 28, 29, 30, 12, 31, 14, 9, 10, 11, 13, 15, 388, 389, 390, 391, 392, 164, 161, 165, 393, 394, 395, 396, 397, 160, 162, 36, 37, 38, 39, 40, 398, 399, 400, 341, 401, 355, 402, 403, 72, 73, 74, 75, 76, 77, 78, 79, 404, 405, 406, 407, 408, 409, 410, 411, 412, 413, 414, 415, 416, 424, 425, 440, 441, 442, 443, 444, 445, 446] rfl (by decide +kernel)
set_option maxRecDepth 20000 in
theorem gX2_readMove_X2_readRemarks : GoodIn wsX2_readMove (wsV RX2 89 RX2 yX2_readRemarks wsX2_readRemarks) := goodIn_app (goodIn_of _ (by decide +kernel)) ggX2_readMove_X2_readRemarks
set_option maxRecDepth 20000 in
theorem ggX2_readNumber_X2_readDigits : GoodIn wsX2_readNumber wsX2_readDigits := goodIn_r _ [7, 1, 2, 8, 9, 10, 11, 12, 13, 14, 15, 16, 17, 31, 32, 33, 34, 35, 36, 37, 38, 39, 40, 41, 42, 43, 44] rfl (by decide +kernel)
set_option maxRecDepth 20000 in
theorem gX2_readNumber_X2_readDigits : GoodIn wsX2_readNumber (wsV RX2 204 RX2 yX2_readDigits wsX2_readDigits) := goodIn_app (goodIn_of _ (by decide +kernel)) ggX2_readNumber_X2_readDigits
set_option maxRecDepth 20000 in
theorem ggX2_readNumber_X6_size : GoodIn wsX2_readNumber wsX6_size := goodIn_r _ [21, 13, 43, 44] rfl (by decide +kernel)
set_option maxRecDepth 20000 in
theorem gX2_readNumber_X6_size : GoodIn wsX2_readNumber (wsV RX2 72 RX6 yX6_size wsX6_size) := goodIn_app (goodIn_of _ (by decide +kernel)) ggX2_readNumber_X6_size
set_option maxRecDepth 20000 in
theorem ggX2_readNumber_X6_at : GoodIn wsX2_readNumber wsX6_at := goodIn_r _ [12, 13, 14, 43, 44] rfl (by decide +kernel)
set_option maxRecDepth 20000 in
theorem gX2_readNumber_X6_at : GoodIn wsX2_readNumber (wsV RX2 76 RX6 yX6_at wsX6_at) := goodIn_app (goodIn_of _ (by decide +kernel)) ggX2_readNumber_X6_at
set_option maxRecDepth 20000 in
theorem ggX2_readNumber_X2_skipBlanks : GoodIn wsX2_readNumber wsX2_skipBlanks := goodIn_r _ [25, 1, 2, 18, 19, 20, 11, 21, 13, 8, 9, 10, 12, 14, 31, 32, 33, 34, 35, 36, 37, 38, 39, 40, 41, 42, 43, 44] rfl (by decide +kernel)
set_option maxRecDepth 20000 in
theorem gX2_readNumber_X2_skipBlanks : GoodIn wsX2_readNumber (wsV RX2 79 RX2 yX2_skipBlanks wsX2_skipBlanks) := goodIn_app (goodIn_of _ (by decide +kernel)) ggX2_readNumber_X2_skipBlanks
set_option maxRecDepth 20000 in
theorem ggX2_readNumber_X2_refuse : GoodIn wsX2_readNumber wsX2_refuse := goodIn_r _ [29, 30, 31, 32, 33, 34, 35, 36, 37, 38, 39, 40, 41, 42] rfl (by decide +kernel)
set_option maxRecDepth 20000 in
theorem gX2_readNumber_X2_refuse : GoodIn wsX2_readNumber (wsV RX2 99 RX2 yX2_refuse wsX2_refuse) := goodIn_app (goodIn_of _ (by decide +kernel)) ggX2_readNumber_X2_refuse
set_option maxRecDepth 20000 in
theorem ggX2_readDigits_X6_at : GoodIn wsX2_readDigits wsX6_at := goodIn_r _ [7, 8, 9, 25, 26] rfl (by decide +kernel)
set_option maxRecDepth 20000 in
theorem gX2_readDigits_X6_at : GoodIn wsX2_readDigits (wsV RX2 76 RX6 yX6_at wsX6_at) := goodIn_app (goodIn_of _ (by decide +kernel)) ggX2_readDigits_X6_at
set_option maxRecDepth 20000 in
theorem ggX2_readDigits_X11_isDigit : GoodIn wsX2_readDigits wsX11_isDigit := goodIn_r _ [12] rfl (by decide +kernel)
set_option maxRecDepth 20000 in
theorem gX2_readDigits_X11_isDigit_n136 : GoodIn wsX2_readDigits (wsX11_isDigit) := ggX2_readDigits_X11_isDigit
set_option maxRecDepth 20000 in
theorem ggX2_skipSigns_X6_size : GoodIn wsX2_skipSigns wsX6_size := goodIn_r _ [7, 8, 35, 36] rfl (by decide +kernel)
set_option maxRecDepth 20000 in
theorem gX2_skipSigns_X6_size : GoodIn wsX2_skipSigns (wsV RX2 72 RX6 yX6_size wsX6_size) := goodIn_app (goodIn_of _ (by decide +kernel)) ggX2_skipSigns_X6_size
set_option maxRecDepth 20000 in
theorem ggX2_skipSigns_X6_at : GoodIn wsX2_skipSigns wsX6_at := goodIn_r _ [12, 8, 13, 35, 36] rfl (by decide +kernel)
set_option maxRecDepth 20000 in
theorem gX2_skipSigns_X6_at : GoodIn wsX2_skipSigns (wsV RX2 76 RX6 yX6_at wsX6_at) := goodIn_app (goodIn_of _ (by decide +kernel)) ggX2_skipSigns_X6_at
set_option maxRecDepth 20000 in
theorem ggX2_skipSigns_X2_isSign : GoodIn wsX2_skipSigns wsX2_isSign := goodIn_r _ [17, 18, 19, 20, 21, 22] rfl (by decide +kernel)
set_option maxRecDepth 20000 in
theorem gX2_skipSigns_X2_isSign : GoodIn wsX2_skipSigns (va_wsS RX2 208 yX2_isSign wsX2_isSign) := goodIn_app (goodIn_of _ (by decide +kernel)) ggX2_skipSigns_X2_isSign
set_option maxRecDepth 20000 in
theorem ggX2_isSign_X11_isLetter : GoodIn wsX2_isSign wsX11_isLetter := goodIn_r _ [3] rfl (by decide +kernel)
set_option maxRecDepth 20000 in
theorem gX2_isSign_X11_isLetter_n132 : GoodIn wsX2_isSign (wsX11_isLetter) := ggX2_isSign_X11_isLetter
set_option maxRecDepth 20000 in
theorem ggX2_isSign_X11_isDigit : GoodIn wsX2_isSign wsX11_isDigit := goodIn_r _ [5] rfl (by decide +kernel)
set_option maxRecDepth 20000 in
theorem gX2_isSign_X11_isDigit_n136 : GoodIn wsX2_isSign (wsX11_isDigit) := ggX2_isSign_X11_isDigit
set_option maxRecDepth 20000 in
theorem ggX2_readMarks_X2_skipBlanks : GoodIn wsX2_readMarks wsX2_skipBlanks := goodIn_r _ [7, 2, 1, 8, 9, 10, 11, 12, 13, 14, 15, 16, 17, 18, 46, 47, 48, 49, 50, 51, 52, 53, 54, 55, 56, 57, 58, 59] rfl (by decide +kernel)
set_option maxRecDepth 20000 in
theorem gX2_readMarks_X2_skipBlanks : GoodIn wsX2_readMarks (wsV RX2 79 RX2 yX2_skipBlanks wsX2_skipBlanks) := goodIn_app (goodIn_of _ (by decide +kernel)) ggX2_readMarks_X2_skipBlanks
set_option maxRecDepth 20000 in
theorem ggX2_readMarks_X6_at : GoodIn wsX2_readMarks wsX6_at := goodIn_r _ [17, 13, 18, 58, 59] rfl (by decide +kernel)
set_option maxRecDepth 20000 in
theorem gX2_readMarks_X6_at : GoodIn wsX2_readMarks (wsV RX2 76 RX6 yX6_at wsX6_at) := goodIn_app (goodIn_of _ (by decide +kernel)) ggX2_readMarks_X6_at
set_option maxRecDepth 20000 in
theorem ggX2_readMarks_X2_shortMark : GoodIn wsX2_readMarks wsX2_shortMark := goodIn_r _ [21] rfl (by decide +kernel)
set_option maxRecDepth 20000 in
theorem gX2_readMarks_X2_shortMark : GoodIn wsX2_readMarks (va_wsS RX2 211 yX2_shortMark wsX2_shortMark) := goodIn_app (goodIn_of _ (by decide +kernel)) ggX2_readMarks_X2_shortMark
set_option maxRecDepth 20000 in
theorem ggX2_readMarks_X4_putMark : GoodIn wsX2_readMarks wsX4_putMark := goodIn_r _ [26, 27, 28, 60, 61, 62, 63, 64, 65, 66] rfl (by decide +kernel)
set_option maxRecDepth 20000 in
theorem gX2_readMarks_X4_putMark : GoodIn wsX2_readMarks (wsV RX2 215 RX4 yX4_putMark wsX4_putMark) := goodIn_app (goodIn_of _ (by decide +kernel)) ggX2_readMarks_X4_putMark
set_option maxRecDepth 20000 in
theorem ggX2_readMarks_X2_readMark : GoodIn wsX2_readMarks wsX2_readMark := goodIn_r _ [32, 2, 33, 1, 34, 35, 36, 6, 37, 14, 15, 16, 11, 17, 13, 18, 38, 39, 40, 41, 42, 43, 44, 45, 22, 23, 24, 25, 26, 27, 28, 46, 47, 48, 49, 50, 51, 52, 53, 54, 55, 56, 57, 60, 61, 62, 63, 64, 65, 66, 58, 59] rfl (by decide +kernel)
set_option maxRecDepth 20000 in
theorem gX2_readMarks_X2_readMark : GoodIn wsX2_readMarks (wsV RX2 218 RX2 yX2_readMark wsX2_readMark) := goodIn_app (goodIn_of _ (by decide +kernel)) ggX2_readMarks_X2_readMark
set_option maxRecDepth 20000 in
theorem ggX2_readMark_X2_readDigits : GoodIn wsX2_readMark wsX2_readDigits := goodIn_r _ [8, 1, 3, 9, 10, 11, 12, 13, 14, 15, 16, 17, 18, 31, 32, 33, 34, 35, 36, 37, 38, 39, 40, 41, 42, 50, 51] rfl (by decide +kernel)
set_option maxRecDepth 20000 in
theorem gX2_readMark_X2_readDigits : GoodIn wsX2_readMark (wsV RX2 204 RX2 yX2_readDigits wsX2_readDigits) := goodIn_app (goodIn_of _ (by decide +kernel)) ggX2_readMark_X2_readDigits
set_option maxRecDepth 20000 in
theorem ggX2_readMark_X2_refuse : GoodIn wsX2_readMark wsX2_refuse := goodIn_r _ [22, 23, 31, 32, 33, 34, 35, 36, 37, 38, 39, 40, 41, 42] rfl (by decide +kernel)
set_option maxRecDepth 20000 in
theorem gX2_readMark_X2_refuse : GoodIn wsX2_readMark (wsV RX2 99 RX2 yX2_refuse wsX2_refuse) := goodIn_app (goodIn_of _ (by decide +kernel)) ggX2_readMark_X2_refuse
set_option maxRecDepth 20000 in
theorem ggX2_readMark_X6_at : GoodIn wsX2_readMark wsX6_at := goodIn_r _ [13, 14, 15, 50, 51] rfl (by decide +kernel)
set_option maxRecDepth 20000 in
theorem gX2_readMark_X6_at : GoodIn wsX2_readMark (wsV RX2 76 RX6 yX6_at wsX6_at) := goodIn_app (goodIn_of _ (by decide +kernel)) ggX2_readMark_X6_at
set_option maxRecDepth 20000 in
theorem ggX2_readMark_X11_isDigit : GoodIn wsX2_readMark wsX11_isDigit := goodIn_r _ [18] rfl (by decide +kernel)
set_option maxRecDepth 20000 in
theorem gX2_readMark_X11_isDigit_n136 : GoodIn wsX2_readMark (wsX11_isDigit) := ggX2_readMark_X11_isDigit
set_option maxRecDepth 20000 in
theorem ggX2_readMark_X4_putMark : GoodIn wsX2_readMark wsX4_putMark := goodIn_r _ [28, 29, 30, 43, 44, 45, 46, 47, 48, 49] rfl (by decide +kernel)
set_option maxRecDepth 20000 in
theorem gX2_readMark_X4_putMark : GoodIn wsX2_readMark (wsV RX2 215 RX4 yX4_putMark wsX4_putMark) := goodIn_app (goodIn_of _ (by decide +kernel)) ggX2_readMark_X4_putMark
set_option maxRecDepth 20000 in
theorem ggX2_resultHere_X11_resultSign : GoodIn wsX2_resultHere wsX11_resultSign := goodIn_r _ [5] rfl (by decide +kernel)
set_option maxRecDepth 20000 in
theorem gX2_resultHere_X11_resultSign_n224 : GoodIn wsX2_resultHere (wsX11_resultSign) := ggX2_resultHere_X11_resultSign
set_option maxRecDepth 20000 in
theorem ggX2_resultHere_X6_holds : GoodIn wsX2_resultHere wsX6_holds := goodIn_r _ [10, 11, 12, 13, 14, 15, 16, 17, 18, 19, 20, 21, 22, 23, 24, 25, 26, 27, 28, 29, 30, 31, 32, 33, 34, 35, 36, 37, 38, 39, 40, 41, 42, 43, 44, 45, 46, 47, 48, 49, 50, 51, 52, 53, 54, 55, 56, 57, 58, 59, 60, 61, 74, 75] rfl (by decide +kernel)
set_option maxRecDepth 20000 in
theorem gX2_resultHere_X6_holds : GoodIn wsX2_resultHere (wsV RX2 228 RX6 yX6_holds wsX6_holds) := goodIn_app (goodIn_of _ (by decide +kernel)) ggX2_resultHere_X6_holds
set_option maxRecDepth 20000 in
theorem ggX2_readEnd_X2_resultHere : GoodIn wsX2_readEnd wsX2_resultHere := goodIn_r _ [9, 4, 2, 10, 11, 12, 13, 14, 15, 16, 17, 18, 19, 20, 21, 22, 23, 24, 25, 26, 27, 28, 29, 30, 31, 32, 33, 34, 35, 36, 37, 38, 39, 40, 41, 42, 43, 44, 45, 46, 47, 48, 49, 50, 51, 52, 53, 54, 55, 56, 57, 58, 59, 60, 61, 62, 63, 64, 65, 66, 67, 68, 121, 122, 123, 124, 125, 126, 127, 128, 129, 130, 131, 132, 141, 142] rfl (by decide +kernel)
set_option maxRecDepth 20000 in
theorem gX2_readEnd_X2_resultHere : GoodIn wsX2_readEnd (wsV RX2 166 RX2 yX2_resultHere wsX2_resultHere) := goodIn_app (goodIn_of _ (by decide +kernel)) ggX2_readEnd_X2_resultHere
set_option maxRecDepth 20000 in
theorem ggX2_readEnd_X1_agreesWith : GoodIn wsX2_readEnd wsX1_agreesWith := goodIn_r _ [73, 74, 75, 76, 77, 78, 79, 72, 80, 81, 82, 83, 84, 85, 86, 87, 88, 89, 90, 91, 16, 92, 93, 94, 95, 96, 97, 19, 18, 98, 99, 100, 101, 20, 21, 22, 23, 24, 25, 26, 27, 28, 29, 30, 31, 102, 14, 15, 17, 32, 33, 34, 35, 36, 37, 38, 39, 40, 41, 42, 43, 44, 45, 46, 47, 48, 49, 50, 51, 52, 53, 54, 55, 56, 57, 58, 59, 60, 61, 62, 63, 64, 65, 66, 67, 68, 10, 11, 12, 133, 134, 135, 136, 137, 138, 139, 140, 143, 144, 141, 142] rfl (by decide +kernel)
set_option maxRecDepth 20000 in
theorem gX2_readEnd_X1_agreesWith : GoodIn wsX2_readEnd (wsV RX2 232 RX1 yX1_agreesWith wsX1_agreesWith) := goodIn_app (goodIn_of _ (by decide +kernel)) ggX2_readEnd_X1_agreesWith
set_option maxRecDepth 20000 in
theorem ggX2_readEnd_X2_refuse : GoodIn wsX2_readEnd wsX2_refuse := goodIn_r _ [106, 107, 121, 122, 123, 124, 125, 126, 127, 128, 129, 130, 131, 132] rfl (by decide +kernel)
set_option maxRecDepth 20000 in
theorem gX2_readEnd_X2_refuse : GoodIn wsX2_readEnd (wsV RX2 99 RX2 yX2_refuse wsX2_refuse) := goodIn_app (goodIn_of _ (by decide +kernel)) ggX2_readEnd_X2_refuse
set_option maxRecDepth 20000 in
theorem ggX2_readEnd_X11_resultSign : GoodIn wsX2_readEnd wsX11_resultSign := goodIn_r _ [12] rfl (by decide +kernel)
set_option maxRecDepth 20000 in
theorem gX2_readEnd_X11_resultSign_n224 : GoodIn wsX2_readEnd (wsX11_resultSign) := ggX2_readEnd_X11_resultSign
set_option maxRecDepth 20000 in
theorem ggX2_readEnd_J0_length_8abf5 : GoodIn wsX2_readEnd wsJ0_length_8abf5 := goodIn_r _ [24, 25, 26, 27, 28, 23, 29, 30, 31] rfl (by decide +kernel)
set_option maxRecDepth 20000 in
theorem gX2_readEnd_J0_length_8abf5 : GoodIn wsX2_readEnd (wsV RX2 238 RJ0 yJ0_length_8abf5 wsJ0_length_8abf5) := goodIn_app (goodIn_of _ (by decide +kernel)) ggX2_readEnd_J0_length_8abf5
set_option maxRecDepth 20000 in
theorem ggX2_readEnd_X2_skipBlanks : GoodIn wsX2_readEnd wsX2_skipBlanks := goodIn_r _ [112, 2, 4, 113, 114, 115, 16, 116, 18, 117, 118, 119, 120, 19, 121, 122, 123, 124, 125, 126, 127, 128, 129, 130, 131, 132, 141, 142] rfl (by decide +kernel)
set_option maxRecDepth 20000 in
theorem gX2_readEnd_X2_skipBlanks : GoodIn wsX2_readEnd (wsV RX2 79 RX2 yX2_skipBlanks wsX2_skipBlanks) := goodIn_app (goodIn_of _ (by decide +kernel)) ggX2_readEnd_X2_skipBlanks
set_option maxRecDepth 20000 in
theorem ggX2_readEnd_X6_size : GoodIn wsX2_readEnd wsX6_size := goodIn_r _ [116, 18, 141, 142] rfl (by decide +kernel)
set_option maxRecDepth 20000 in
theorem gX2_readEnd_X6_size : GoodIn wsX2_readEnd (wsV RX2 72 RX6 yX6_size wsX6_size) := goodIn_app (goodIn_of _ (by decide +kernel)) ggX2_readEnd_X6_size
