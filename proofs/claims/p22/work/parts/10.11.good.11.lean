set_option maxRecDepth 20000 in
theorem ggX11_init_X6_init : GoodIn wsX11_init wsX6_init := goodIn_r _ [39, 40, 2, 3, 41, 42, 43, 154, 155] rfl (by decide +kernel)
set_option maxRecDepth 20000 in
theorem gX11_init_X6_init_n9 : GoodIn wsX11_init (wsX6_init) := ggX11_init_X6_init
set_option maxRecDepth 20000 in
theorem ggX11_init_X7_init : GoodIn wsX11_init wsX7_init := goodIn_r _ [45, 46, 2, 3, 47, 35, 36, 48, 49, 50, 51, 52, 53, 54, 55, 56, 57, 58, 59, 60, 203, 204, 205, 206, 207, 208, 209, 166, 167] rfl (by decide +kernel)
set_option maxRecDepth 20000 in
theorem gX11_init_X7_init_n21 : GoodIn wsX11_init (wsX7_init) := ggX11_init_X7_init
set_option maxRecDepth 20000 in
theorem ggX11_init_X8_init : GoodIn wsX11_init wsX8_init := goodIn_r _ [62, 63, 2, 3, 64, 10, 11, 65, 66, 5, 6, 67, 53, 68, 44, 45, 46, 47, 35, 36, 48, 49, 50, 51, 52, 54, 55, 56, 57, 58, 59, 60, 38, 39, 40, 41, 42, 43, 166, 167, 168, 169, 170, 171, 172, 173, 174, 175, 176, 177, 178, 179, 154, 155, 203, 204, 205, 206, 207, 208, 209] rfl (by decide +kernel)
set_option maxRecDepth 20000 in
theorem gX11_init_X8_init_n28 : GoodIn wsX11_init (wsX8_init) := ggX11_init_X8_init
set_option maxRecDepth 20000 in
theorem ggX11_init_X9_init : GoodIn wsX11_init wsX9_init := goodIn_r _ [70, 71, 2, 3, 72, 10, 11, 73, 44, 45, 46, 47, 35, 36, 48, 49, 50, 51, 52, 53, 54, 55, 56, 57, 58, 59, 60, 166, 167, 180, 203, 204, 205, 206, 207, 208, 209] rfl (by decide +kernel)
set_option maxRecDepth 20000 in
theorem gX11_init_X9_init_n35 : GoodIn wsX11_init (wsX9_init) := ggX11_init_X9_init
set_option maxRecDepth 20000 in
theorem ggX11_init_X2_init : GoodIn wsX11_init wsX2_init := goodIn_r _ [76, 77, 2, 3, 78, 14, 15, 79, 80, 81, 82, 83, 84, 5, 6, 85, 86, 30, 31, 87, 88, 89, 90, 91, 53, 92, 93, 94, 95, 96, 35, 36, 61, 62, 63, 64, 10, 11, 65, 66, 67, 68, 44, 45, 46, 47, 48, 49, 50, 51, 52, 54, 55, 56, 57, 58, 59, 60, 38, 39, 40, 41, 42, 43, 97, 98, 99, 100, 101, 102, 103, 104, 105, 106, 107, 108, 109, 110, 111, 112, 113, 114, 115, 116, 117, 118, 119, 120, 121, 122, 123, 124, 125, 126, 127, 128, 129, 130, 131, 132, 133, 134, 135, 136, 137, 138, 139, 140, 141, 142, 143, 168, 169, 170, 171, 172, 173, 174, 175, 176, 177, 178, 179, 181, 182, 183, 184, 185, 186, 187, 188, 189, 190, 191, 192, 210, 211, 154, 155, 195, 196, 197, 198, 199, 200, 201, 202, 203, 204, 205, 206, 207, 208, 209, 166, 167, 212, 213, 214, 215, 216, 217, 218] rfl (by decide +kernel)
set_option maxRecDepth 20000 in
theorem gX11_init_X2_init : GoodIn wsX11_init (wsX2_init) := ggX11_init_X2_init
set_option maxRecDepth 20000 in
theorem ggX11_init_X3_init : GoodIn wsX11_init wsX3_init := goodIn_r _ [146, 147, 2, 3, 148, 18, 19, 149, 150, 151, 35, 36, 69, 70, 71, 72, 10, 11, 73, 44, 45, 46, 47, 48, 49, 50, 51, 52, 53, 54, 55, 56, 57, 58, 59, 60, 180, 193, 194, 203, 204, 205, 206, 207, 208, 209, 166, 167] rfl (by decide +kernel)
set_option maxRecDepth 20000 in
theorem gX11_init_X3_init : GoodIn wsX11_init (wsX3_init) := ggX11_init_X3_init
set_option maxRecDepth 20000 in
theorem ggX11_init_X1_init : GoodIn wsX11_init wsX1_init := goodIn_r _ [105, 106, 2, 3, 107, 35, 36, 108, 109, 110, 111, 112, 113, 114, 115, 116, 117, 118, 53, 119, 50, 51, 52, 54, 55, 56, 57, 58, 59, 60, 120, 121, 122, 123, 124, 125, 126, 127, 128, 129, 5, 6, 130, 38, 39, 40, 41, 42, 43, 131, 132, 133, 134, 135, 136, 137, 138, 139, 140, 141, 142, 143, 203, 204, 205, 206, 207, 208, 209, 195, 196, 197, 198, 199, 200, 201, 202, 212, 213, 214, 215, 216, 217, 218, 154, 155] rfl (by decide +kernel)
set_option maxRecDepth 20000 in
theorem gX11_init_X1_init : GoodIn wsX11_init (wsX1_init) := ggX11_init_X1_init
set_option maxRecDepth 20000 in
theorem ggX11_init_X0_init : GoodIn wsX11_init wsX0_init := goodIn_r _ [51, 52, 2, 3, 53, 54, 55, 56, 57, 58, 59, 60, 203, 204, 205, 206, 207, 208, 209] rfl (by decide +kernel)
set_option maxRecDepth 20000 in
theorem gX11_init_X0_init_n67 : GoodIn wsX11_init (wsX0_init) := ggX11_init_X0_init
set_option maxRecDepth 20000 in
theorem ggX11_init_X0_setUp : GoodIn wsX11_init wsX0_setUp := goodIn_r _ [134, 135, 58, 136, 137, 138, 36, 139, 54, 57, 59, 60, 140, 141, 142, 143, 55, 56, 203, 204, 205, 206, 207, 208, 209] rfl (by decide +kernel)
set_option maxRecDepth 20000 in
theorem gX11_init_X0_setUp : GoodIn wsX11_init (wsV RX11 72 RX0 yX0_setUp wsX0_setUp) := goodIn_app (goodIn_of _ (by decide +kernel)) ggX11_init_X0_setUp
set_option maxRecDepth 20000 in
theorem ggX11_type_X6_size : GoodIn wsX11_type wsX6_size := goodIn_r _ [6, 7, 33, 34] rfl (by decide +kernel)
set_option maxRecDepth 20000 in
theorem gX11_type_X6_size : GoodIn wsX11_type (wsV RX11 75 RX6 yX6_size wsX6_size) := goodIn_app (goodIn_of _ (by decide +kernel)) ggX11_type_X6_size
set_option maxRecDepth 20000 in
theorem ggX11_type_X11_byteOf : GoodIn wsX11_type wsX11_byteOf := goodIn_r _ [11, 12] rfl (by decide +kernel)
set_option maxRecDepth 20000 in
theorem gX11_type_X11_byteOf : GoodIn wsX11_type (va_wsS RX11 79 yX11_byteOf wsX11_byteOf) := goodIn_app (goodIn_of _ (by decide +kernel)) ggX11_type_X11_byteOf
set_option maxRecDepth 20000 in
theorem ggX11_type_X6_put : GoodIn wsX11_type wsX6_put := goodIn_r _ [16, 7, 17, 18, 19, 20, 21, 22, 33, 34] rfl (by decide +kernel)
set_option maxRecDepth 20000 in
theorem gX11_type_X6_put : GoodIn wsX11_type (wsV RX11 83 RX6 yX6_put wsX6_put) := goodIn_app (goodIn_of _ (by decide +kernel)) ggX11_type_X6_put
set_option maxRecDepth 20000 in
theorem ggX11_cut_X6_size : GoodIn wsX11_cut wsX6_size := goodIn_r _ [6, 7, 22, 23] rfl (by decide +kernel)
set_option maxRecDepth 20000 in
theorem gX11_cut_X6_size : GoodIn wsX11_cut (wsV RX11 75 RX6 yX6_size wsX6_size) := goodIn_app (goodIn_of _ (by decide +kernel)) ggX11_cut_X6_size
set_option maxRecDepth 20000 in
theorem ggX11_cut_X6_keep : GoodIn wsX11_cut wsX6_keep := goodIn_r _ [11, 7, 22, 23] rfl (by decide +kernel)
set_option maxRecDepth 20000 in
theorem gX11_cut_X6_keep : GoodIn wsX11_cut (wsV RX11 87 RX6 yX6_keep wsX6_keep) := goodIn_app (goodIn_of _ (by decide +kernel)) ggX11_cut_X6_keep
set_option maxRecDepth 20000 in
theorem ggX11_read_X2_begin : GoodIn wsX11_read wsX2_begin := goodIn_r _ [10, 11, 12, 13, 14, 15, 16, 17, 18, 19, 20, 21, 22, 23, 24, 25, 26, 27, 28, 29, 30, 31, 32, 33, 34, 35, 36, 37, 38, 39, 40, 41, 42, 43, 44, 45, 46, 47, 48, 49, 50, 51, 52, 53, 54, 55, 56, 57, 58, 59, 60, 61, 62, 63, 615, 616, 617, 618, 619, 620, 621, 622, 623, 624, 625, 626, 627, 628, 629, 630, 631, 632, 633, 634, 635, 636, 637, 638, 639, 640, 641, 642, 643, 644, 645, 646, 647, 648, 649, 650] rfl (by decide +kernel)
set_option maxRecDepth 20000 in
theorem gX11_read_X2_begin : GoodIn wsX11_read (wsV RX11 91 RX2 yX2_begin wsX2_begin) := goodIn_app (goodIn_of _ (by decide +kernel)) ggX11_read_X2_begin
set_option maxRecDepth 20000 in
theorem ggX11_read_X2_readHead : GoodIn wsX11_read wsX2_readHead := goodIn_r _ [67, 11, 13, 12, 68, 69, 70, 9, 71, 72, 73, 74, 61, 75, 63, 76, 77, 78, 79, 80, 81, 82, 83, 84, 85, 86, 87, 88, 89, 90, 91, 92, 93, 94, 59, 60, 62, 95, 96, 97, 98, 99, 100, 101, 102, 103, 104, 105, 106, 107, 108, 109, 110, 111, 112, 14, 113, 114, 115, 116, 117, 118, 119, 18, 120, 23, 121, 122, 123, 124, 125, 126, 127, 128, 129, 130, 131, 132, 133, 134, 135, 136, 137, 138, 139, 140, 141, 142, 143, 144, 145, 146, 147, 148, 149, 150, 151, 152, 153, 154, 155, 156, 157, 158, 159, 160, 161, 162, 163, 164, 165, 166, 167, 168, 169, 170, 171, 172, 173, 174, 175, 176, 177, 178, 179, 180, 181, 182, 183, 184, 185, 186, 187, 188, 189, 190, 191, 192, 193, 194, 195, 196, 197, 198, 199, 200, 201, 202, 203, 204, 205, 206, 207, 208, 209, 210, 211, 212, 33, 34, 28, 35, 36, 37, 31, 38, 39, 213, 214, 215, 216, 217, 218, 219, 220, 221, 222, 223, 224, 225, 226, 227, 228, 229, 230, 231, 232, 233, 234, 235, 236, 237, 238, 239, 240, 241, 242, 243, 244, 245, 246, 247, 248, 249, 250, 251, 252, 253, 254, 255, 256, 257, 258, 259, 260, 261, 262, 263, 264, 265, 266, 267, 268, 269, 270, 271, 272, 273, 274, 275, 276, 277, 278, 279, 280, 281, 282, 283, 284, 285, 286, 287, 288, 289, 41, 42, 43, 44, 45, 290, 291, 292, 293, 294, 295, 296, 297, 298, 299, 300, 301, 302, 303, 304, 305, 306, 307, 308, 309, 310, 311, 312, 313, 314, 315, 316, 317, 318, 319, 320, 321, 322, 323, 324, 325, 326, 327, 328, 329, 330, 331, 332, 333, 334, 335, 336, 337, 338, 339, 340, 341, 342, 343, 344, 345, 346, 347, 348, 349, 350, 351, 352, 353, 354, 355, 356, 357, 358, 359, 360, 361, 362, 363, 364, 365, 366, 367, 368, 369, 370, 22, 371, 21, 372, 373, 374, 375, 376, 377, 378, 379, 380, 381, 382, 383, 384, 385, 386, 387, 388, 49, 389, 57, 390, 391, 392, 615, 616, 617, 618, 619, 620, 621, 622, 623, 624, 625, 626, 649, 650, 627, 628, 629, 630, 631, 632, 633, 634, 651, 652, 653, 654, 635, 636, 637, 638, 639, 640, 641, 642, 643, 644, 645, 646, 647, 648] rfl (by decide +kernel)
set_option maxRecDepth 20000 in
theorem gX11_read_X2_readHead : GoodIn wsX11_read (wsV RX11 95 RX2 yX2_readHead wsX2_readHead) := goodIn_app (goodIn_of _ (by decide +kernel)) ggX11_read_X2_readHead
set_option maxRecDepth 20000 in
theorem ggX11_read_X2_readMoves : GoodIn wsX11_read wsX2_readMoves := goodIn_r _ [396, 397, 398, 399, 12, 89, 11, 13, 400, 401, 402, 28, 403, 36, 404, 106, 107, 108, 44, 45, 37, 31, 38, 39, 68, 69, 70, 9, 71, 72, 73, 74, 61, 75, 63, 76, 77, 78, 79, 80, 405, 406, 407, 408, 409, 96, 410, 411, 165, 166, 167, 152, 153, 154, 155, 156, 157, 158, 159, 160, 161, 162, 163, 168, 169, 170, 171, 172, 173, 174, 175, 176, 177, 178, 179, 180, 181, 182, 183, 184, 185, 186, 187, 188, 189, 190, 191, 192, 193, 194, 195, 196, 197, 198, 199, 200, 201, 202, 203, 204, 109, 110, 111, 112, 14, 412, 413, 414, 415, 416, 417, 367, 368, 369, 18, 370, 22, 371, 21, 372, 373, 374, 375, 376, 377, 378, 379, 380, 245, 242, 246, 381, 382, 383, 384, 385, 241, 243, 386, 387, 388, 49, 389, 57, 390, 391, 101, 102, 103, 104, 105, 392, 418, 419, 420, 421, 422, 423, 98, 99, 424, 425, 426, 427, 428, 429, 430, 431, 95, 97, 432, 433, 434, 435, 436, 437, 438, 439, 440, 441, 442, 443, 444, 445, 446, 447, 448, 449, 450, 451, 452, 453, 454, 59, 60, 62, 455, 456, 457, 458, 459, 460, 461, 462, 463, 464, 465, 466, 149, 150, 151, 164, 467, 468, 469, 229, 230, 231, 232, 233, 234, 235, 236, 237, 238, 239, 240, 244, 247, 248, 249, 250, 251, 252, 253, 254, 255, 256, 257, 258, 259, 260, 261, 262, 263, 264, 265, 266, 267, 268, 269, 270, 271, 272, 273, 274, 275, 276, 277, 278, 279, 280, 281, 282, 283, 284, 285, 286, 287, 288, 307, 308, 309, 310, 311, 312, 226, 227, 470, 471, 472, 473, 474, 475, 476, 477, 478, 479, 480, 481, 482, 483, 484, 485, 486, 487, 488, 489, 490, 491, 492, 493, 494, 328, 329, 330, 495, 496, 497, 498, 499, 500, 501, 502, 503, 504, 505, 506, 339, 340, 341, 342, 507, 508, 509, 510, 511, 512, 513, 514, 515, 516, 517, 518, 519, 520, 336, 337, 338, 521, 522, 523, 524, 525, 40, 41, 42, 43, 526, 527, 528, 529, 350, 351, 352, 530, 332, 333, 334, 531, 532, 533, 534, 535, 536, 537, 538, 539, 540, 541, 542, 543, 544, 545, 546, 547, 548, 549, 550, 551, 552, 553, 554, 555, 556, 557, 558, 133, 134, 51, 52, 53, 54, 55, 56, 559, 136, 139, 140, 141, 142, 46, 47, 48, 50, 58, 560, 561, 562, 563, 564, 565, 566, 567, 568, 569, 570, 571, 572, 573, 574, 575, 576, 615, 616, 617, 618, 619, 620, 621, 622, 623, 624, 625, 626, 627, 628, 629, 630, 631, 632, 633, 634, 635, 636, 637, 638, 639, 640, 641, 649, 650, 642, 643, 644, 645, 646, 647, 648, 655, 656, 657, 658, 659, 660, 661, 662, 663, 664, 665, 666, 667, 668] rfl (by decide +kernel)
set_option maxRecDepth 20000 in
theorem gX11_read_X2_readMoves : GoodIn wsX11_read (wsV RX11 99 RX2 yX2_readMoves wsX2_readMoves) := goodIn_app (goodIn_of _ (by decide +kernel)) ggX11_read_X2_readMoves
set_option maxRecDepth 20000 in
theorem ggX11_read_X2_readEnd : GoodIn wsX11_read wsX2_readEnd := goodIn_r _ [580, 12, 13, 581, 11, 405, 406, 407, 9, 408, 409, 96, 410, 411, 165, 166, 61, 167, 63, 80, 152, 153, 154, 155, 156, 157, 158, 159, 160, 161, 162, 163, 168, 169, 170, 171, 172, 173, 174, 175, 176, 177, 178, 179, 180, 181, 182, 183, 184, 185, 186, 187, 188, 189, 190, 191, 192, 193, 194, 195, 196, 197, 198, 199, 200, 201, 202, 203, 204, 582, 583, 584, 18, 585, 23, 121, 357, 122, 123, 124, 125, 126, 127, 128, 129, 130, 131, 132, 133, 134, 135, 136, 137, 138, 139, 140, 141, 142, 586, 149, 150, 151, 164, 109, 110, 111, 112, 14, 587, 68, 69, 70, 71, 72, 73, 74, 75, 76, 77, 78, 79, 615, 616, 617, 618, 619, 620, 621, 622, 623, 624, 625, 626, 627, 628, 629, 630, 631, 632, 633, 634, 649, 650, 651, 652] rfl (by decide +kernel)
set_option maxRecDepth 20000 in
theorem gX11_read_X2_readEnd : GoodIn wsX11_read (wsV RX11 102 RX2 yX2_readEnd wsX2_readEnd) := goodIn_app (goodIn_of _ (by decide +kernel)) ggX11_read_X2_readEnd
set_option maxRecDepth 20000 in
theorem ggX11_read_X2_fault : GoodIn wsX11_read wsX2_fault := goodIn_r _ [591, 14, 615, 616, 617, 618, 619, 620, 621, 622, 623, 624, 625, 626] rfl (by decide +kernel)
set_option maxRecDepth 20000 in
theorem gX11_read_X2_fault : GoodIn wsX11_read (wsV RX11 105 RX2 yX2_fault wsX2_fault) := goodIn_app (goodIn_of _ (by decide +kernel)) ggX11_read_X2_fault
set_option maxRecDepth 20000 in
theorem ggX11_read_X2_exchange : GoodIn wsX11_read wsX2_exchange := goodIn_r _ [595, 12, 615, 616, 617, 618, 619, 620, 621, 622, 623, 624, 625, 626] rfl (by decide +kernel)
set_option maxRecDepth 20000 in
theorem gX11_read_X2_exchange : GoodIn wsX11_read (wsV RX11 108 RX2 yX2_exchange wsX2_exchange) := goodIn_app (goodIn_of _ (by decide +kernel)) ggX11_read_X2_exchange
set_option maxRecDepth 20000 in
theorem ggX11_read_X6_keep : GoodIn wsX11_read wsX6_keep := goodIn_r _ [62, 63, 649, 650] rfl (by decide +kernel)
set_option maxRecDepth 20000 in
theorem gX11_read_X6_keep : GoodIn wsX11_read (wsV RX11 87 RX6 yX6_keep wsX6_keep) := goodIn_app (goodIn_of _ (by decide +kernel)) ggX11_read_X6_keep
set_option maxRecDepth 20000 in
theorem ggX11_read_X1_standAt : GoodIn wsX11_read wsX1_standAt := goodIn_r _ [600, 601, 547, 602, 20, 549, 368, 369, 18, 370, 22, 371, 21, 603, 401, 402, 28, 403, 36, 404, 106, 107, 108, 44, 45, 37, 31, 38, 39, 604, 523, 524, 525, 494, 328, 329, 330, 507, 482, 483, 484, 40, 41, 42, 43, 526, 527, 528, 529, 350, 351, 352, 627, 628, 629, 630, 631, 632, 633, 634, 642, 643, 644, 645, 646, 647, 648, 635, 636, 637, 638, 639, 640, 641] rfl (by decide +kernel)
set_option maxRecDepth 20000 in
theorem gX11_read_X1_standAt : GoodIn wsX11_read (wsV RX11 112 RX1 yX1_standAt wsX1_standAt) := goodIn_app (goodIn_of _ (by decide +kernel)) ggX11_read_X1_standAt
set_option maxRecDepth 20000 in
theorem ggX11_find_X6_size : GoodIn wsX11_find wsX6_size := goodIn_r _ [8, 9, 295, 296] rfl (by decide +kernel)
set_option maxRecDepth 20000 in
theorem gX11_find_X6_size : GoodIn wsX11_find (wsV RX11 75 RX6 yX6_size wsX6_size) := goodIn_app (goodIn_of _ (by decide +kernel)) ggX11_find_X6_size
set_option maxRecDepth 20000 in
theorem ggX11_find_X8_matched : GoodIn wsX11_find wsX8_matched := goodIn_r _ [14, 15, 16, 17, 18, 19, 20, 21, 22, 13, 23, 24, 25, 26, 27, 7, 28, 9, 29, 5, 6, 8, 30, 31, 32, 33, 34, 35, 36, 37, 38, 39, 40, 41, 42, 43, 44, 45, 46, 47, 48, 49, 50, 51, 52, 53, 54, 55, 56, 57, 58, 59, 60, 61, 62, 63, 64, 65, 66, 67, 68, 69, 70, 71, 72, 73, 74, 75, 76, 77, 78, 79, 80, 81, 82, 83, 84, 85, 86, 87, 88, 89, 90, 91, 92, 93, 94, 95, 96, 97, 98, 99, 100, 101, 102, 103, 104, 105, 106, 107, 108, 109, 110, 111, 112, 113, 114, 115, 116, 117, 118, 119, 120, 121, 122, 123, 124, 125, 126, 127, 128, 129, 130, 131, 132, 133, 134, 135, 136, 137, 138, 139, 140, 141, 142, 143, 144, 145, 146, 147, 148, 149, 150, 151, 152, 153, 154, 155, 156, 157, 158, 159, 160, 161, 162, 163, 164, 165, 166, 167, 168, 169, 170, 171, 172, 173, 174, 175, 176, 177, 178, 179, 180, 181, 182, 183, 184, 185, 186, 187, 188, 189, 190, 191, 192, 193, 194, 195, 196, 197, 198, 199, 200, 201, 202, 203, 204, 205, 206, 207, 208, 209, 210, 211, 212, 213, 214, 215, 216, 217, 218, 219, 220, 221, 222, 223, 224, 225, 226, 227, 228, 229, 230, 231, 232, 233, 234, 235, 236, 237, 238, 239, 240, 241, 242, 243, 244, 245, 246, 247, 248, 249, 250, 251, 252, 253, 254, 255, 256, 257, 258, 259, 260, 261, 262, 263, 264, 265, 266, 267, 268, 269, 270, 271, 272, 273, 274, 275, 276, 277, 278, 279, 280, 281, 282, 283, 284, 297, 298, 299, 300, 301, 302, 303, 304, 305, 306, 307, 308, 295, 296, 309, 310, 311, 312, 313, 314, 315, 316, 317] rfl (by decide +kernel)
set_option maxRecDepth 20000 in
theorem gX11_find_X8_matched : GoodIn wsX11_find (wsV RX11 116 RX8 yX8_matched wsX8_matched) := goodIn_app (goodIn_of _ (by decide +kernel)) ggX11_find_X8_matched
set_option maxRecDepth 20000 in
theorem ggX11_write_X6_keep : GoodIn wsX11_write wsX6_keep := goodIn_r _ [9, 10, 300, 301] rfl (by decide +kernel)
set_option maxRecDepth 20000 in
theorem gX11_write_X6_keep : GoodIn wsX11_write (wsV RX11 87 RX6 yX6_keep wsX6_keep) := goodIn_app (goodIn_of _ (by decide +kernel)) ggX11_write_X6_keep
set_option maxRecDepth 20000 in
theorem ggX11_write_X3_putHead : GoodIn wsX11_write wsX3_putHead := goodIn_r _ [15, 16, 17, 18, 19, 20, 21, 22, 23, 24, 25, 26, 27, 28, 29, 30, 31, 32, 33, 34, 35, 36, 37, 8, 38, 39, 40, 41, 42, 43, 44, 10, 45, 46, 47, 48, 49, 50, 51, 52, 53, 54, 55, 56, 57, 58, 59, 60, 61, 62, 63, 64, 65, 66, 67, 68, 69, 70, 71, 72, 73, 74, 75, 76, 77, 78, 79, 80, 81, 82, 83, 84, 85, 86, 87, 88, 89, 90, 91, 92, 93, 94, 95, 96, 97, 98, 99, 100, 101, 102, 103, 104, 105, 106, 107, 108, 109, 110, 111, 112, 113, 114, 115, 116, 117, 14, 118, 119, 120, 121, 122, 123, 124, 125, 126, 127, 128, 129, 130, 131, 132, 133, 134, 135, 136, 137, 138, 139, 140, 141, 142, 143, 144, 145, 146, 147, 148, 149, 150, 302, 303, 304, 305, 306, 307, 308, 309, 310, 311, 312, 313, 300, 301, 293, 294, 295, 296, 297, 298, 299, 314, 315, 316, 317, 318, 319, 320] rfl (by decide +kernel)
set_option maxRecDepth 20000 in
theorem gX11_write_X3_putHead : GoodIn wsX11_write (wsV RX11 120 RX3 yX3_putHead wsX3_putHead) := goodIn_app (goodIn_of _ (by decide +kernel)) ggX11_write_X3_putHead
set_option maxRecDepth 20000 in
theorem ggX11_write_X1_at : GoodIn wsX11_write wsX1_at := goodIn_r _ [127, 128, 129, 130, 302, 303, 304, 305, 306, 307, 308, 309] rfl (by decide +kernel)
set_option maxRecDepth 20000 in
theorem gX11_write_X1_at : GoodIn wsX11_write (wsV RX11 124 RX1 yX1_at wsX1_at) := goodIn_app (goodIn_of _ (by decide +kernel)) ggX11_write_X1_at
set_option maxRecDepth 20000 in
theorem ggX11_write_X3_putLine : GoodIn wsX11_write wsX3_putLine := goodIn_r _ [154, 19, 134, 155, 156, 157, 124, 125, 126, 24, 127, 128, 129, 130, 158, 159, 160, 14, 161, 162, 163, 164, 165, 135, 136, 137, 119, 120, 121, 8, 122, 10, 123, 59, 60, 61, 44, 45, 46, 47, 48, 49, 50, 51, 52, 53, 166, 167, 168, 169, 62, 63, 64, 65, 66, 67, 68, 69, 70, 71, 72, 73, 74, 75, 76, 77, 78, 79, 80, 81, 82, 83, 84, 85, 86, 87, 88, 89, 90, 91, 92, 93, 94, 95, 96, 97, 98, 99, 100, 101, 102, 103, 104, 105, 106, 107, 108, 109, 110, 111, 112, 113, 114, 115, 170, 171, 172, 173, 174, 175, 176, 177, 178, 141, 179, 143, 180, 181, 182, 183, 184, 185, 186, 187, 188, 189, 190, 191, 192, 193, 194, 195, 196, 197, 198, 199, 200, 201, 202, 203, 147, 204, 205, 206, 207, 149, 208, 209, 210, 211, 212, 213, 214, 215, 216, 148, 217, 218, 219, 220, 221, 222, 223, 224, 225, 226, 227, 228, 229, 139, 140, 142, 144, 145, 146, 150, 230, 231, 232, 233, 234, 235, 236, 237, 238, 239, 240, 241, 242, 243, 244, 245, 246, 247, 248, 249, 250, 251, 252, 253, 254, 255, 256, 257, 258, 259, 260, 261, 262, 263, 264, 265, 131, 132, 133, 54, 55, 56, 57, 58, 266, 267, 268, 269, 270, 271, 272, 138, 273, 152, 153, 274, 312, 313, 293, 294, 295, 296, 297, 298, 299, 302, 303, 304, 305, 306, 307, 308, 309, 314, 315, 316, 317, 318, 319, 320, 300, 301, 321, 322, 323] rfl (by decide +kernel)
set_option maxRecDepth 20000 in
theorem gX11_write_X3_putLine_n133 : GoodIn wsX11_write (wsX3_putLine) := ggX11_write_X3_putLine
set_option maxRecDepth 20000 in
theorem ggX11_write_X3_putEnd : GoodIn wsX11_write wsX3_putEnd := goodIn_r _ [278, 279, 135, 136, 14, 137, 119, 120, 121, 8, 122, 10, 123, 59, 60, 61, 44, 45, 46, 47, 48, 49, 50, 51, 52, 53, 280, 191, 281, 63, 64, 65, 66, 67, 68, 69, 70, 71, 72, 73, 74, 75, 76, 77, 78, 79, 80, 81, 82, 83, 84, 85, 86, 87, 88, 89, 90, 91, 92, 93, 94, 95, 96, 97, 98, 99, 100, 101, 102, 103, 104, 105, 106, 107, 108, 109, 110, 111, 112, 113, 114, 115, 62, 302, 303, 304, 305, 306, 307, 308, 309, 300, 301] rfl (by decide +kernel)
set_option maxRecDepth 20000 in
theorem gX11_write_X3_putEnd : GoodIn wsX11_write (wsV RX11 137 RX3 yX3_putEnd wsX3_putEnd) := goodIn_app (goodIn_of _ (by decide +kernel)) ggX11_write_X3_putEnd
set_option maxRecDepth 20000 in
theorem ggX11_write_X6_size : GoodIn wsX11_write wsX6_size := goodIn_r _ [122, 10, 300, 301] rfl (by decide +kernel)
set_option maxRecDepth 20000 in
theorem gX11_write_X6_size : GoodIn wsX11_write (wsV RX11 75 RX6 yX6_size wsX6_size) := goodIn_app (goodIn_of _ (by decide +kernel)) ggX11_write_X6_size
set_option maxRecDepth 20000 in
theorem ggX11_out_X6_at : GoodIn wsX11_out wsX6_at := goodIn_r _ [6, 7, 8, 19, 20] rfl (by decide +kernel)
set_option maxRecDepth 20000 in
theorem gX11_out_X6_at : GoodIn wsX11_out (wsV RX11 155 RX6 yX6_at wsX6_at) := goodIn_app (goodIn_of _ (by decide +kernel)) ggX11_out_X6_at
set_option maxRecDepth 20000 in
theorem ggX11_move_X7_legalMove : GoodIn wsX11_move wsX7_legalMove := goodIn_r _ [7, 8, 9, 10, 11, 12, 13, 14, 15, 16, 17, 18, 19, 20, 21, 22, 23, 24, 25, 26, 27, 28, 29, 30, 31, 32, 33, 34, 35, 36, 37, 38, 39, 6, 40, 41, 42, 43, 44, 45, 46, 47, 48, 49, 50, 51, 52, 53, 54, 55, 56, 57, 58, 59, 60, 61, 62, 63, 64, 65, 66, 67, 68, 69, 70, 71, 72, 73, 74, 75, 76, 77, 78, 79, 80, 81, 92, 93, 94, 95, 96, 97, 98, 99, 100] rfl (by decide +kernel)
set_option maxRecDepth 20000 in
theorem gX11_move_X7_legalMove : GoodIn wsX11_move (wsV RX11 201 RX7 yX7_legalMove wsX7_legalMove) := goodIn_app (goodIn_of _ (by decide +kernel)) ggX11_move_X7_legalMove
set_option maxRecDepth 20000 in
theorem ggX11_squareOf_X11_isFile : GoodIn wsX11_squareOf wsX11_isFile := goodIn_r _ [4] rfl (by decide +kernel)
set_option maxRecDepth 20000 in
theorem gX11_squareOf_X11_isFile : GoodIn wsX11_squareOf (va_wsS RX11 279 yX11_isFile wsX11_isFile) := goodIn_app (goodIn_of _ (by decide +kernel)) ggX11_squareOf_X11_isFile
set_option maxRecDepth 20000 in
theorem ggX11_squareOf_X11_isRank : GoodIn wsX11_squareOf wsX11_isRank := goodIn_r _ [7] rfl (by decide +kernel)
set_option maxRecDepth 20000 in
theorem gX11_squareOf_X11_isRank : GoodIn wsX11_squareOf (va_wsS RX11 283 yX11_isRank wsX11_isRank) := goodIn_app (goodIn_of _ (by decide +kernel)) ggX11_squareOf_X11_isRank
set_option maxRecDepth 20000 in
theorem ggX11_kindOf_J0_indexOf_0f7a4 : GoodIn wsX11_kindOf wsJ0_indexOf_0f7a4 := goodIn_r _ [5, 6, 7, 8, 4, 9, 10, 11, 12, 13, 14, 15, 16, 17, 18, 19, 20, 21, 22, 23, 24, 25, 26, 27, 28, 29, 30, 31, 32, 33, 34, 35, 36, 37, 38, 39, 40, 41, 42, 43, 44, 45, 46, 47, 48, 49, 50, 51, 52, 53, 54, 55, 56, 57, 58, 59, 60, 61, 62, 63, 64, 65, 66, 67, 68, 69, 70, 71, 72, 73, 74, 75, 76, 77, 78, 79, 80, 81, 82, 83, 84, 85, 86, 87, 88, 89] rfl (by decide +kernel)
set_option maxRecDepth 20000 in
theorem gX11_kindOf_J0_indexOf_0f7a4 : GoodIn wsX11_kindOf (wsV RX11 288 RJ0 yJ0_indexOf_0f7a4 wsJ0_indexOf_0f7a4) := goodIn_app (goodIn_of _ (by decide +kernel)) ggX11_kindOf_J0_indexOf_0f7a4
set_option maxRecDepth 20000 in
theorem ggX11_letterOf_J0_charAt_5068e : GoodIn wsX11_letterOf wsJ0_charAt_5068e := goodIn_r _ [5, 6, 7, 8, 9, 4, 10, 11, 12, 13, 14, 15, 16, 17, 18, 19, 20, 21, 22, 23, 24, 25, 26, 27, 28, 29, 30, 31, 32, 33, 34, 35, 36, 37, 38, 39, 40, 41] rfl (by decide +kernel)
set_option maxRecDepth 20000 in
theorem gX11_letterOf_J0_charAt_5068e : GoodIn wsX11_letterOf (wsV RX11 292 RJ0 yJ0_charAt_5068e wsJ0_charAt_5068e) := goodIn_app (goodIn_of _ (by decide +kernel)) ggX11_letterOf_J0_charAt_5068e
