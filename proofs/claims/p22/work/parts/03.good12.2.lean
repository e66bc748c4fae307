set_option maxRecDepth 20000 in
theorem ggX12_readMove_X12_append : GoodIn wsX12_readMove wsX12_append := goodIn_r _ [145, 2, 146, 140, 139, 141, 147, 148, 149, 6, 150, 151, 152, 153, 154, 155, 156, 157, 158, 159, 160, 161, 162, 163, 164, 165, 166, 167, 168, 169, 170, 171, 172, 173, 174, 175, 176, 177, 178, 179, 180, 181, 182, 183, 184, 185, 186, 187, 188, 189, 190, 191, 192] rfl (by decide +kernel)
set_option maxRecDepth 20000 in
theorem gX12_readMove_X12_append : GoodIn wsX12_readMove (wsV RX12 313 RX12 yX12_append wsX12_append) := goodIn_app (goodIn_of _ (by decide +kernel)) ggX12_readMove_X12_append
set_option maxRecDepth 20000 in
theorem ggX12_readLine_X12_blanks : GoodIn wsX12_readLine wsX12_blanks := goodIn_r _ [6, 1, 7, 8, 205, 206, 207, 208, 209, 210, 211, 212, 213, 214, 215, 216, 217, 218, 219, 220, 221, 222, 223, 224, 225, 226, 227, 228, 229, 230, 231, 232, 233, 234, 235, 236, 237, 238, 239, 240, 241, 242, 243, 244] rfl (by decide +kernel)
set_option maxRecDepth 20000 in
theorem gX12_readLine_X12_blanks : GoodIn wsX12_readLine (wsV RX12 273 RX12 yX12_blanks wsX12_blanks) := goodIn_app (goodIn_of _ (by decide +kernel)) ggX12_readLine_X12_blanks
set_option maxRecDepth 20000 in
theorem ggX12_readLine_X12_resultHere : GoodIn wsX12_readLine wsX12_resultHere := goodIn_r _ [12, 1, 7, 8, 13, 14, 15, 5, 16, 17, 18, 19, 20, 205, 206, 207, 208, 209, 210, 211, 212, 213, 214, 215, 216, 217, 218, 219, 220, 221, 222, 223, 224, 225, 226, 227, 228, 229, 230, 231, 232, 233, 234, 235, 236, 237, 238, 239, 240, 241, 242, 243, 244] rfl (by decide +kernel)
set_option maxRecDepth 20000 in
theorem gX12_readLine_X12_resultHere : GoodIn wsX12_readLine (wsV RX12 316 RX12 yX12_resultHere wsX12_resultHere) := goodIn_app (goodIn_of _ (by decide +kernel)) ggX12_readLine_X12_resultHere
set_option maxRecDepth 20000 in
theorem ggX12_readLine_X12_look : GoodIn wsX12_readLine wsX12_look := goodIn_r _ [16, 1, 7, 8, 205, 206, 207, 208, 209, 210, 211, 212, 213, 214, 215, 216, 217, 218, 219, 220, 221, 222, 223, 224, 225, 226, 227, 228, 229, 230, 231, 232, 233, 234, 235, 236, 237, 238, 239, 240, 241, 242, 243, 244] rfl (by decide +kernel)
set_option maxRecDepth 20000 in
theorem gX12_readLine_X12_look : GoodIn wsX12_readLine (wsV RX12 276 RX12 yX12_look wsX12_look) := goodIn_app (goodIn_of _ (by decide +kernel)) ggX12_readLine_X12_look
set_option maxRecDepth 20000 in
theorem ggX12_readLine_X12_place : GoodIn wsX12_readLine wsX12_place := goodIn_r _ [24, 25, 26, 27, 28, 29, 30, 31, 32, 33, 34, 35, 36, 37, 38, 5, 39, 40, 41, 42, 43, 44, 45, 46, 47, 48, 49, 50, 51, 52, 53, 54, 55, 56, 57, 58, 59, 60, 61, 62, 63, 64, 65, 66, 67, 68, 69, 70, 71, 72, 73, 74, 75, 76, 77, 78, 79, 80, 81, 82, 83, 84, 85, 86, 87, 88, 89, 90, 91, 92, 93, 94, 95, 96, 97, 98, 99, 100, 101, 102, 103, 104, 105, 106, 107, 108, 109, 110, 111, 112, 205, 206, 207, 208, 209, 210, 211, 212, 213, 214, 215, 216, 217, 218, 219, 220, 221, 222, 223, 224, 225, 226, 227, 228, 229, 230, 231, 232, 233, 234, 235, 236, 237, 238, 239, 240, 241, 242, 243, 244] rfl (by decide +kernel)
set_option maxRecDepth 20000 in
theorem gX12_readLine_X12_place : GoodIn wsX12_readLine (wsV RX12 95 RX12 yX12_place wsX12_place) := goodIn_app (goodIn_of _ (by decide +kernel)) ggX12_readLine_X12_place
set_option maxRecDepth 20000 in
theorem ggX12_readLine_X12_readMoveNumber : GoodIn wsX12_readLine wsX12_readMoveNumber := goodIn_r _ [116, 1, 34, 13, 14, 15, 5, 16, 7, 8, 117, 118, 119, 120, 121, 122, 2, 3, 4, 6, 205, 206, 207, 208, 209, 210, 211, 212, 213, 214, 215, 216, 217, 218, 219, 220, 221, 222, 223, 224, 225, 226, 227, 228, 229, 230, 231, 232, 233, 234, 235, 236, 237, 238, 239, 240, 241, 242, 243, 244] rfl (by decide +kernel)
set_option maxRecDepth 20000 in
theorem gX12_readLine_X12_readMoveNumber : GoodIn wsX12_readLine (wsV RX12 319 RX12 yX12_readMoveNumber wsX12_readMoveNumber) := goodIn_app (goodIn_of _ (by decide +kernel)) ggX12_readLine_X12_readMoveNumber
set_option maxRecDepth 20000 in
theorem ggX12_readLine_X12_readMove : GoodIn wsX12_readLine wsX12_readMove := goodIn_r _ [126, 1, 127, 13, 14, 15, 5, 16, 7, 8, 128, 129, 130, 120, 121, 122, 117, 118, 119, 131, 132, 133, 134, 62, 63, 135, 136, 137, 138, 27, 40, 41, 42, 43, 44, 45, 46, 139, 140, 141, 142, 143, 144, 145, 146, 147, 148, 149, 150, 151, 152, 153, 154, 155, 156, 157, 158, 159, 160, 161, 162, 163, 164, 165, 166, 167, 30, 95, 96, 97, 98, 99, 100, 31, 32, 33, 34, 36, 37, 38, 39, 47, 48, 49, 50, 51, 52, 53, 54, 55, 56, 57, 101, 102, 103, 104, 105, 106, 107, 108, 83, 84, 85, 86, 87, 88, 89, 90, 67, 68, 69, 70, 64, 65, 66, 71, 72, 73, 74, 75, 76, 77, 78, 79, 80, 81, 82, 168, 169, 170, 171, 109, 110, 111, 112, 172, 173, 174, 175, 176, 35, 177, 178, 179, 180, 181, 26, 182, 183, 184, 185, 186, 187, 205, 206, 207, 208, 209, 210, 211, 212, 213, 214, 215, 216, 217, 218, 219, 220, 221, 222, 223, 224, 225, 226, 227, 228, 229, 230, 231, 232, 233, 234, 235, 236, 237, 238, 239, 240, 241, 242, 243, 244] rfl (by decide +kernel)
set_option maxRecDepth 20000 in
theorem gX12_readLine_X12_readMove : GoodIn wsX12_readLine (wsV RX12 322 RX12 yX12_readMove wsX12_readMove) := goodIn_app (goodIn_of _ (by decide +kernel)) ggX12_readLine_X12_readMove
set_option maxRecDepth 20000 in
theorem ggX12_readLine_X12_readMarks : GoodIn wsX12_readLine wsX12_readMarks := goodIn_r _ [191, 1, 186, 2, 3, 4, 5, 6, 7, 8, 13, 14, 15, 16, 192, 193, 194, 195, 196, 117, 118, 119, 120, 121, 122, 205, 206, 207, 208, 209, 210, 211, 212, 213, 214, 215, 216, 217, 218, 219, 220, 221, 222, 223, 224, 225, 226, 227, 228, 229, 230, 231, 232, 233, 234, 235, 236, 237, 238, 239, 240, 241, 242, 243, 244] rfl (by decide +kernel)
set_option maxRecDepth 20000 in
theorem gX12_readLine_X12_readMarks : GoodIn wsX12_readLine (wsV RX12 325 RX12 yX12_readMarks wsX12_readMarks) := goodIn_app (goodIn_of _ (by decide +kernel)) ggX12_readLine_X12_readMarks
set_option maxRecDepth 20000 in
theorem ggX12_readLine_X12_readRemarks : GoodIn wsX12_readLine wsX12_readRemarks := goodIn_r _ [200, 1, 7, 187, 201, 8, 2, 3, 4, 5, 6, 13, 14, 15, 16, 120, 121, 122, 205, 206, 207, 208, 209, 210, 211, 212, 213, 214, 215, 216, 217, 218, 219, 220, 221, 222, 223, 224, 225, 226, 227, 228, 229, 230, 231, 232, 233, 234, 235, 236, 237, 238, 239, 240, 241, 242, 243, 244] rfl (by decide +kernel)
set_option maxRecDepth 20000 in
theorem gX12_readLine_X12_readRemarks : GoodIn wsX12_readLine (wsV RX12 328 RX12 yX12_readRemarks wsX12_readRemarks) := goodIn_app (goodIn_of _ (by decide +kernel)) ggX12_readLine_X12_readRemarks
set_option maxRecDepth 20000 in
theorem ggX12_readLine_X12_fault : GoodIn wsX12_readLine wsX12_fault := goodIn_r _ [122] rfl (by decide +kernel)
set_option maxRecDepth 20000 in
theorem gX12_readLine_X12_fault : GoodIn wsX12_readLine (va_wsS RX12 285 yX12_fault wsX12_fault) := goodIn_app (goodIn_of _ (by decide +kernel)) ggX12_readLine_X12_fault
set_option maxRecDepth 20000 in
theorem ggX12_readLine_X12_readLine : GoodIn wsX12_readLine wsX12_readLine := goodIn_r _ [0, 1, 2, 3, 4, 5, 6, 7, 8, 9, 10, 11, 12, 13, 14, 15, 16, 17, 18, 19, 20, 21, 22, 23, 24, 25, 26, 27, 28, 29, 30, 31, 32, 33, 34, 35, 36, 37, 38, 39, 40, 41, 42, 43, 44, 45, 46, 47, 48, 49, 50, 51, 52, 53, 54, 55, 56, 57, 58, 59, 60, 61, 62, 63, 64, 65, 66, 67, 68, 69, 70, 71, 72, 73, 74, 75, 76, 77, 78, 79, 80, 81, 82, 83, 84, 85, 86, 87, 88, 89, 90, 91, 92, 93, 94, 95, 96, 97, 98, 99, 100, 101, 102, 103, 104, 105, 106, 107, 108, 109, 110, 111, 112, 113, 114, 115, 116, 117, 118, 119, 120, 121, 122, 123, 124, 125, 126, 127, 128, 129, 130, 131, 132, 133, 134, 135, 136, 137, 138, 139, 140, 141, 142, 143, 144, 145, 146, 147, 148, 149, 150, 151, 152, 153, 154, 155, 156, 157, 158, 159, 160, 161, 162, 163, 164, 165, 166, 167, 168, 169, 170, 171, 172, 173, 174, 175, 176, 177, 178, 179, 180, 181, 182, 183, 184, 185, 186, 187, 188, 189, 190, 191, 192, 193, 194, 195, 196, 197, 198, 199, 200, 201, 202, 203, 204, 205, 206, 207, 208, 209, 210, 211, 212, 213, 214, 215, 216, 217, 218, 219, 220, 221, 222, 223, 224, 225, 226, 227, 228, 229, 230, 231, 232, 233, 234, 235, 236, 237, 238, 239, 240, 241, 242, 243, 244] rfl (by decide +kernel)
set_option maxRecDepth 20000 in
theorem gX12_readLine_X12_readLine : GoodIn wsX12_readLine (wsV RX12 331 RX12 yX12_readLine wsX12_readLine) := goodIn_app (goodIn_of _ (by decide +kernel)) ggX12_readLine_X12_readLine
set_option maxRecDepth 20000 in
theorem ggX12_readGame_X12_blanks : GoodIn wsX12_readGame wsX12_blanks := goodIn_r _ [9, 1, 4, 10, 279, 280, 281, 282, 283, 284, 285, 286, 287, 288, 289, 290, 291, 292, 293, 294, 295, 296, 297, 298, 299, 300, 301, 302, 303, 304, 305, 306, 307, 308, 309, 310, 311, 312, 313, 314, 315, 316, 317, 318] rfl (by decide +kernel)
set_option maxRecDepth 20000 in
theorem gX12_readGame_X12_blanks : GoodIn wsX12_readGame (wsV RX12 273 RX12 yX12_blanks wsX12_blanks) := goodIn_app (goodIn_of _ (by decide +kernel)) ggX12_readGame_X12_blanks
set_option maxRecDepth 20000 in
theorem ggX12_readGame_X12_look : GoodIn wsX12_readGame wsX12_look := goodIn_r _ [14, 1, 4, 10, 279, 280, 281, 282, 283, 284, 285, 286, 287, 288, 289, 290, 291, 292, 293, 294, 295, 296, 297, 298, 299, 300, 301, 302, 303, 304, 305, 306, 307, 308, 309, 310, 311, 312, 313, 314, 315, 316, 317, 318] rfl (by decide +kernel)
set_option maxRecDepth 20000 in
theorem gX12_readGame_X12_look : GoodIn wsX12_readGame (wsV RX12 276 RX12 yX12_look wsX12_look) := goodIn_app (goodIn_of _ (by decide +kernel)) ggX12_readGame_X12_look
set_option maxRecDepth 20000 in
theorem ggX12_readGame_X12_readTag : GoodIn wsX12_readGame wsX12_readTag := goodIn_r _ [18, 1, 2, 19, 4, 20, 21, 22, 5, 6, 7, 8, 9, 10, 11, 12, 13, 14, 23, 24, 25, 26, 27, 28, 29, 30, 31, 32, 33, 34, 35, 36, 37, 38, 39, 40, 41, 42, 43, 44, 45, 46, 47, 48, 49, 50, 51, 52, 53, 54, 55, 56, 57, 58, 59, 60, 61, 62, 63, 64, 65, 66, 67, 68, 69, 70, 71, 72, 73, 74, 75, 76, 77, 78, 79, 80, 81, 82, 83, 84, 85, 86, 87, 88, 89, 90, 91, 92, 93, 94, 95, 96, 97, 98, 99, 100, 101, 102, 103, 104, 105, 106, 107, 108, 109, 110, 111, 112, 113, 114, 115, 116, 117, 118, 279, 280, 281, 282, 283, 284, 285, 286, 287, 288, 289, 290, 291, 292, 293, 294, 295, 296, 297, 298, 299, 300, 301, 302, 303, 304, 305, 306, 307, 308, 309, 310, 311, 312, 313, 314, 315, 316, 317, 318] rfl (by decide +kernel)
set_option maxRecDepth 20000 in
theorem gX12_readGame_X12_readTag : GoodIn wsX12_readGame (wsV RX12 334 RX12 yX12_readTag wsX12_readTag) := goodIn_app (goodIn_of _ (by decide +kernel)) ggX12_readGame_X12_readTag
set_option maxRecDepth 20000 in
theorem ggX12_readGame_X12_readRemarks : GoodIn wsX12_readGame wsX12_readRemarks := goodIn_r _ [122, 1, 4, 123, 124, 10, 5, 6, 7, 8, 9, 11, 12, 13, 14, 29, 30, 31, 279, 280, 281, 282, 283, 284, 285, 286, 287, 288, 289, 290, 291, 292, 293, 294, 295, 296, 297, 298, 299, 300, 301, 302, 303, 304, 305, 306, 307, 308, 309, 310, 311, 312, 313, 314, 315, 316, 317, 318] rfl (by decide +kernel)
set_option maxRecDepth 20000 in
theorem gX12_readGame_X12_readRemarks : GoodIn wsX12_readGame (wsV RX12 328 RX12 yX12_readRemarks wsX12_readRemarks) := goodIn_app (goodIn_of _ (by decide +kernel)) ggX12_readGame_X12_readRemarks
set_option maxRecDepth 20000 in
theorem ggX12_readGame_X12_readLine : GoodIn wsX12_readGame wsX12_readLine := goodIn_r _ [128, 1, 5, 6, 7, 8, 9, 4, 10, 129, 130, 131, 132, 11, 12, 13, 14, 133, 134, 135, 136, 137, 138, 139, 140, 141, 142, 46, 117, 118, 47, 69, 74, 48, 49, 143, 144, 145, 146, 147, 87, 88, 89, 148, 149, 150, 151, 152, 153, 154, 155, 102, 103, 104, 105, 106, 107, 108, 156, 157, 158, 159, 160, 161, 162, 163, 164, 165, 166, 167, 168, 169, 170, 171, 172, 173, 174, 175, 176, 177, 178, 179, 180, 98, 99, 100, 101, 109, 110, 111, 112, 181, 182, 183, 184, 185, 186, 187, 188, 189, 190, 90, 91, 92, 93, 94, 95, 96, 97, 191, 192, 193, 194, 195, 196, 197, 198, 26, 27, 28, 29, 30, 31, 199, 200, 201, 202, 203, 23, 24, 25, 204, 205, 206, 207, 208, 209, 210, 211, 212, 213, 214, 215, 216, 217, 218, 219, 220, 221, 222, 223, 224, 225, 226, 227, 228, 229, 230, 231, 232, 233, 234, 235, 236, 237, 238, 239, 240, 241, 242, 243, 244, 245, 246, 247, 248, 249, 250, 251, 252, 253, 254, 255, 256, 257, 258, 259, 123, 260, 261, 262, 263, 264, 265, 266, 267, 268, 119, 120, 121, 122, 124, 125, 126, 127, 279, 280, 281, 282, 283, 284, 285, 286, 287, 288, 289, 290, 291, 292, 293, 294, 295, 296, 297, 298, 299, 300, 301, 302, 303, 304, 305, 306, 307, 308, 309, 310, 311, 312, 313, 314, 315, 316, 317, 318] rfl (by decide +kernel)
set_option maxRecDepth 20000 in
theorem gX12_readGame_X12_readLine : GoodIn wsX12_readGame (wsV RX12 331 RX12 yX12_readLine wsX12_readLine) := goodIn_app (goodIn_of _ (by decide +kernel)) ggX12_readGame_X12_readLine
set_option maxRecDepth 20000 in
theorem ggX12_readGame_X12_resultHere : GoodIn wsX12_readGame wsX12_resultHere := goodIn_r _ [132, 1, 4, 10, 11, 12, 13, 8, 14, 133, 134, 135, 136, 279, 280, 281, 282, 283, 284, 285, 286, 287, 288, 289, 290, 291, 292, 293, 294, 295, 296, 297, 298, 299, 300, 301, 302, 303, 304, 305, 306, 307, 308, 309, 310, 311, 312, 313, 314, 315, 316, 317, 318] rfl (by decide +kernel)
set_option maxRecDepth 20000 in
theorem gX12_readGame_X12_resultHere : GoodIn wsX12_readGame (wsV RX12 316 RX12 yX12_resultHere wsX12_resultHere) := goodIn_app (goodIn_of _ (by decide +kernel)) ggX12_readGame_X12_resultHere
set_option maxRecDepth 20000 in
theorem ggX12_readGame_X12_isTag : GoodIn wsX12_readGame wsX12_isTag := goodIn_r _ [39, 21, 19, 279, 280, 281, 282, 283, 284, 285, 286, 287, 288, 289, 290, 291, 292, 293, 294, 295, 296, 297, 298, 299, 300, 301, 302, 303, 304, 305, 306, 307, 308, 309, 310, 311, 312, 313, 314, 315, 316, 317, 318] rfl (by decide +kernel)
set_option maxRecDepth 20000 in
theorem gX12_readGame_X12_isTag : GoodIn wsX12_readGame (wsV RX12 292 RX12 yX12_isTag wsX12_isTag) := goodIn_app (goodIn_of _ (by decide +kernel)) ggX12_readGame_X12_isTag
set_option maxRecDepth 20000 in
theorem ggX12_readGame_X12_isResultValue : GoodIn wsX12_readGame wsX12_isResultValue := goodIn_r _ [272, 22, 20, 273, 274, 8, 275, 276, 277, 278, 279, 280, 281, 282, 283, 284, 285, 286, 287, 288, 289, 290, 291, 292, 293, 294, 295, 296, 297, 298, 299, 300, 301, 302, 303, 304, 305, 306, 307, 308, 309, 310, 311, 312, 313, 314, 315, 316, 317, 318] rfl (by decide +kernel)
set_option maxRecDepth 20000 in
theorem gX12_readGame_X12_isResultValue : GoodIn wsX12_readGame (wsV RX12 337 RX12 yX12_isResultValue wsX12_isResultValue) := goodIn_app (goodIn_of _ (by decide +kernel)) ggX12_readGame_X12_isResultValue
set_option maxRecDepth 20000 in
theorem ggX12_readGame_X12_fault : GoodIn wsX12_readGame wsX12_fault := goodIn_r _ [31] rfl (by decide +kernel)
set_option maxRecDepth 20000 in
theorem gX12_readGame_X12_fault : GoodIn wsX12_readGame (va_wsS RX12 285 yX12_fault wsX12_fault) := goodIn_app (goodIn_of _ (by decide +kernel)) ggX12_readGame_X12_fault
set_option maxRecDepth 20000 in
theorem ggX12_isResultValue_X12_resultSize : GoodIn wsX12_isResultValue wsX12_resultSize := goodIn_r _ [6] rfl (by decide +kernel)
set_option maxRecDepth 20000 in
theorem gX12_isResultValue_X12_resultSize : GoodIn wsX12_isResultValue (va_wsS RX12 340 yX12_resultSize wsX12_resultSize) := goodIn_app (goodIn_of _ (by decide +kernel)) ggX12_isResultValue_X12_resultSize
set_option maxRecDepth 20000 in
theorem ggX12_isResultValue_X12_resultSign : GoodIn wsX12_isResultValue wsX12_resultSign := goodIn_r _ [9] rfl (by decide +kernel)
set_option maxRecDepth 20000 in
theorem gX12_isResultValue_X12_resultSign : GoodIn wsX12_isResultValue (va_wsS RX12 343 yX12_resultSign wsX12_resultSign) := goodIn_app (goodIn_of _ (by decide +kernel)) ggX12_isResultValue_X12_resultSign
set_option maxRecDepth 20000 in
theorem ggX12_read_X12_clearGame : GoodIn wsX12_read wsX12_clearGame := goodIn_r _ [9, 10, 11, 12, 13, 14, 15, 16, 17, 8, 18, 19, 20, 21, 22, 294, 295, 296, 297, 298, 299, 300, 301, 302, 303, 304, 305, 306, 307, 308, 309, 310, 311, 312, 313, 314, 315, 316, 317, 318, 319, 320, 321, 322, 323, 324, 325, 326, 327, 328, 329, 330, 331, 332, 333] rfl (by decide +kernel)
set_option maxRecDepth 20000 in
theorem gX12_read_X12_clearGame : GoodIn wsX12_read (wsV RX12 88 RX12 yX12_clearGame wsX12_clearGame) := goodIn_app (goodIn_of _ (by decide +kernel)) ggX12_read_X12_clearGame
set_option maxRecDepth 20000 in
theorem ggX12_read_X12_usual : GoodIn wsX12_read wsX12_usual := goodIn_r _ [26, 27, 28, 29, 30, 31, 32, 33, 34, 35, 8, 36, 37, 38, 294, 295, 296, 297, 298, 299, 300, 301, 302, 303, 304, 305, 306, 307, 308, 309, 310, 311, 312, 313, 314, 315, 316, 317, 318, 319, 320, 321, 322, 323, 324, 325, 326, 327, 328, 329, 330, 331, 332, 333] rfl (by decide +kernel)
set_option maxRecDepth 20000 in
theorem gX12_read_X12_usual : GoodIn wsX12_read (wsV RX12 92 RX12 yX12_usual wsX12_usual) := goodIn_app (goodIn_of _ (by decide +kernel)) ggX12_read_X12_usual
set_option maxRecDepth 20000 in
theorem ggX12_read_X12_readGame : GoodIn wsX12_read wsX12_readGame := goodIn_r _ [42, 43, 11, 12, 4, 44, 45, 46, 8, 47, 48, 49, 50, 51, 52, 53, 54, 55, 56, 57, 58, 59, 60, 61, 62, 63, 64, 65, 66, 67, 68, 69, 70, 71, 72, 73, 74, 75, 76, 77, 78, 79, 80, 81, 82, 83, 27, 28, 31, 32, 84, 85, 86, 87, 88, 89, 90, 91, 92, 93, 94, 95, 96, 97, 98, 99, 100, 101, 102, 29, 103, 104, 105, 106, 30, 107, 108, 109, 110, 111, 112, 113, 114, 115, 116, 117, 118, 119, 120, 121, 122, 123, 124, 125, 126, 127, 128, 129, 130, 131, 132, 133, 134, 135, 136, 137, 138, 139, 140, 141, 142, 143, 144, 33, 34, 35, 36, 37, 38, 145, 146, 147, 148, 22, 149, 150, 151, 152, 153, 154, 155, 156, 157, 158, 159, 160, 161, 162, 163, 164, 165, 166, 13, 14, 167, 168, 169, 170, 171, 172, 173, 174, 175, 176, 177, 178, 179, 180, 181, 182, 183, 184, 185, 186, 187, 188, 189, 190, 191, 192, 193, 194, 195, 196, 197, 198, 199, 200, 201, 202, 203, 204, 205, 206, 207, 208, 209, 210, 211, 212, 213, 214, 215, 216, 217, 218, 219, 220, 221, 222, 223, 224, 225, 10, 226, 227, 228, 229, 230, 231, 232, 233, 234, 235, 236, 237, 238, 239, 240, 241, 242, 243, 244, 245, 246, 247, 248, 249, 250, 251, 252, 253, 254, 255, 256, 257, 258, 259, 260, 261, 262, 263, 264, 265, 266, 267, 268, 269, 270, 19, 20, 271, 272, 273, 274, 15, 16, 17, 18, 21, 275, 276, 277, 278, 279, 280, 281, 282, 283, 284, 285, 286, 287, 288, 289, 290, 291, 292, 293, 294, 295, 296, 297, 298, 299, 300, 301, 302, 303, 304, 305, 306, 307, 308, 309, 310, 311, 312, 313, 314, 315, 316, 317, 318, 319, 320, 321, 322, 323, 324, 325, 326, 327, 328, 329, 330, 331, 332, 333] rfl (by decide +kernel)
set_option maxRecDepth 20000 in
theorem gX12_read_X12_readGame : GoodIn wsX12_read (wsV RX12 350 RX12 yX12_readGame wsX12_readGame) := goodIn_app (goodIn_of _ (by decide +kernel)) ggX12_read_X12_readGame
set_option maxRecDepth 20000 in
theorem ggX12_read_X12_place : GoodIn wsX12_read wsX12_place := goodIn_r _ [165, 166, 13, 27, 37, 38, 28, 29, 30, 31, 32, 14, 167, 168, 169, 8, 170, 119, 120, 121, 171, 172, 173, 174, 175, 176, 177, 178, 134, 135, 136, 137, 138, 139, 140, 179, 180, 181, 182, 183, 184, 185, 186, 187, 188, 189, 190, 191, 192, 193, 194, 195, 196, 197, 198, 199, 200, 201, 202, 203, 130, 131, 132, 133, 141, 142, 143, 144, 204, 205, 206, 207, 208, 209, 210, 211, 212, 213, 122, 123, 124, 125, 126, 127, 128, 129, 214, 215, 216, 217, 294, 295, 296, 297, 298, 299, 300, 301, 302, 303, 304, 305, 306, 307, 308, 309, 310, 311, 312, 313, 314, 315, 316, 317, 318, 319, 320, 321, 322, 323, 324, 325, 326, 327, 328, 329, 330, 331, 332, 333] rfl (by decide +kernel)
set_option maxRecDepth 20000 in
theorem gX12_read_X12_place : GoodIn wsX12_read (wsV RX12 95 RX12 yX12_place wsX12_place) := goodIn_app (goodIn_of _ (by decide +kernel)) ggX12_read_X12_place
set_option maxRecDepth 20000 in
theorem ggX12_find_X12_understood : GoodIn wsX12_find wsX12_understood := goodIn_r _ [7, 8, 9, 10, 11, 12, 6, 13, 14, 15, 16, 17, 18, 19, 20, 21, 22, 23, 24, 25, 26, 27, 28, 29, 30, 31, 32, 33, 34, 35, 36, 37, 38, 39, 40, 41, 42, 43, 44, 45, 46, 47, 48, 49, 50, 51, 52, 53, 54, 55, 56, 57, 58, 59, 60, 61, 62, 63, 64, 65, 66, 67, 68, 69, 70, 71, 72, 73, 74, 75, 76, 77, 78, 79, 80, 81, 82, 83, 84, 85, 86, 87, 88, 89, 90, 91, 92, 93, 94, 95, 96, 97, 98, 99, 100, 101, 102, 103, 104, 105, 106, 107, 108, 109, 110, 111, 112, 113, 114, 115, 116, 117, 118, 119, 120, 121, 122, 123, 124, 125, 126, 127, 128, 129, 130, 131, 132, 133, 134, 135, 136, 137, 138, 139, 140, 141, 142, 143, 144, 145, 146, 147, 148, 149, 150, 151, 152, 153, 154, 155, 156, 157, 158, 159, 160] rfl (by decide +kernel)
set_option maxRecDepth 20000 in
theorem gX12_find_X12_understood : GoodIn wsX12_find (wsV RX12 307 RX12 yX12_understood wsX12_understood) := goodIn_app (goodIn_of _ (by decide +kernel)) ggX12_find_X12_understood
set_option maxRecDepth 20000 in
theorem ggX12_sayNumber_X12_ink : GoodIn wsX12_sayNumber wsX12_ink := goodIn_r _ [5, 6, 7, 8, 9, 10, 11, 12, 13, 14, 15, 16, 17, 18, 19, 20, 21, 22, 23, 24, 25, 26, 27, 28, 29, 30, 31, 32, 33, 34, 35, 36, 37, 38, 39, 40, 41, 42, 43, 44, 45, 46, 47] rfl (by decide +kernel)
set_option maxRecDepth 20000 in
theorem gX12_sayNumber_X12_ink : GoodIn wsX12_sayNumber (wsV RX12 367 RX12 yX12_ink wsX12_ink) := goodIn_app (goodIn_of _ (by decide +kernel)) ggX12_sayNumber_X12_ink
set_option maxRecDepth 20000 in
theorem ggX12_sayRemark_X12_ink : GoodIn wsX12_sayRemark wsX12_ink := goodIn_r _ [7, 8, 9, 10, 11, 12, 13, 14, 15, 16, 17, 18, 19, 20, 21, 22, 23, 24, 25, 26, 27, 28, 29, 30, 31, 32, 33, 34, 35, 36, 37, 38, 39, 40, 41, 42, 43, 44, 45, 46, 47, 48, 49] rfl (by decide +kernel)
set_option maxRecDepth 20000 in
theorem gX12_sayRemark_X12_ink : GoodIn wsX12_sayRemark (wsV RX12 367 RX12 yX12_ink wsX12_ink) := goodIn_app (goodIn_of _ (by decide +kernel)) ggX12_sayRemark_X12_ink
set_option maxRecDepth 20000 in
theorem ggX12_sayMove_X12_place : GoodIn wsX12_sayMove wsX12_place := goodIn_r _ [15, 16, 2, 17, 18, 19, 3, 20, 21, 22, 4, 5, 23, 24, 25, 14, 26, 27, 28, 29, 30, 31, 32, 33, 34, 35, 36, 37, 38, 39, 40, 41, 42, 43, 44, 45, 46, 47, 48, 49, 50, 51, 52, 53, 54, 55, 56, 57, 58, 59, 60, 61, 62, 63, 64, 65, 66, 67, 68, 69, 70, 71, 72, 73, 74, 75, 76, 77, 78, 79, 80, 81, 82, 83, 84, 85, 86, 87, 88, 89, 90, 91, 92, 93, 94, 95, 96, 97, 98, 99, 150, 151, 152, 153, 154, 155, 156, 157, 158, 159, 160, 161, 162, 163, 164, 165, 166, 167, 168, 169, 170, 171, 172, 173, 174, 175, 176, 177, 178, 179, 180, 181, 182, 183, 184, 185, 186, 187, 188, 189] rfl (by decide +kernel)
set_option maxRecDepth 20000 in
theorem gX12_sayMove_X12_place : GoodIn wsX12_sayMove (wsV RX12 95 RX12 yX12_place wsX12_place) := goodIn_app (goodIn_of _ (by decide +kernel)) ggX12_sayMove_X12_place
set_option maxRecDepth 20000 in
theorem ggX12_sayMove_X12_sayNumber : GoodIn wsX12_sayMove wsX12_sayNumber := goodIn_r _ [103, 104, 105, 106, 14, 107, 108, 109, 150, 151, 152, 153, 154, 155, 156, 157, 158, 159, 160, 161, 162, 163, 164, 165, 166, 167, 168, 169, 170, 171, 172, 173, 174, 175, 176, 177, 178, 179, 180, 181, 182, 183, 184, 185, 186, 187, 188, 189] rfl (by decide +kernel)
set_option maxRecDepth 20000 in
theorem gX12_sayMove_X12_sayNumber : GoodIn wsX12_sayMove (wsV RX12 370 RX12 yX12_sayNumber wsX12_sayNumber) := goodIn_app (goodIn_of _ (by decide +kernel)) ggX12_sayMove_X12_sayNumber
set_option maxRecDepth 20000 in
theorem ggX12_sayMove_X12_ink : GoodIn wsX12_sayMove wsX12_ink := goodIn_r _ [107, 108, 109, 150, 151, 152, 153, 154, 155, 156, 157, 158, 159, 160, 161, 162, 163, 164, 165, 166, 167, 168, 169, 170, 171, 172, 173, 174, 175, 176, 177, 178, 179, 180, 181, 182, 183, 184, 185, 186, 187, 188, 189] rfl (by decide +kernel)
set_option maxRecDepth 20000 in
theorem gX12_sayMove_X12_ink : GoodIn wsX12_sayMove (wsV RX12 367 RX12 yX12_ink wsX12_ink) := goodIn_app (goodIn_of _ (by decide +kernel)) ggX12_sayMove_X12_ink
set_option maxRecDepth 20000 in
theorem ggX12_sayMove_X12_spellWhole : GoodIn wsX12_sayMove wsX12_spellWhole := goodIn_r _ [113, 114, 115, 116, 14, 117, 17, 49, 50, 27, 28, 29, 30, 31, 32, 33, 118, 119, 120, 121, 6, 122, 123, 124, 125, 126, 127, 128, 129, 7, 130, 131, 132, 133, 134, 135, 136, 137, 138, 139, 140, 3, 82, 83, 84, 85, 86, 87, 20, 21, 22, 4, 23, 24, 25, 26, 34, 35, 36, 37, 38, 39, 40, 41, 42, 43, 44, 88, 89, 90, 91, 92, 93, 94, 95, 70, 71, 72, 73, 74, 75, 76, 77, 54, 55, 56, 57, 51, 52, 53, 58, 59, 60, 61, 62, 63, 64, 65, 66, 67, 68, 69, 141, 142, 143, 144, 96, 97, 98, 99, 150, 151, 152, 153, 154, 155, 156, 157, 158, 159, 160, 161, 162, 163, 164, 165, 166, 167, 168, 169, 170, 171, 172, 173, 174, 175, 176, 177, 178, 179, 180, 181, 182, 183, 184, 185, 186, 187, 188, 189] rfl (by decide +kernel)
set_option maxRecDepth 20000 in
theorem gX12_sayMove_X12_spellWhole : GoodIn wsX12_sayMove (wsV RX12 373 RX12 yX12_spellWhole wsX12_spellWhole) := goodIn_app (goodIn_of _ (by decide +kernel)) ggX12_sayMove_X12_spellWhole
set_option maxRecDepth 20000 in
theorem ggX12_sayMove_X12_sayRemark : GoodIn wsX12_sayMove wsX12_sayRemark := goodIn_r _ [148, 10, 149, 104, 105, 106, 14, 107, 108, 109, 150, 151, 152, 153, 154, 155, 156, 157, 158, 159, 160, 161, 162, 163, 164, 165, 166, 167, 168, 169, 170, 171, 172, 173, 174, 175, 176, 177, 178, 179, 180, 181, 182, 183, 184, 185, 186, 187, 188, 189] rfl (by decide +kernel)
set_option maxRecDepth 20000 in
theorem gX12_sayMove_X12_sayRemark : GoodIn wsX12_sayMove (wsV RX12 376 RX12 yX12_sayRemark wsX12_sayRemark) := goodIn_app (goodIn_of _ (by decide +kernel)) ggX12_sayMove_X12_sayRemark
set_option maxRecDepth 20000 in
theorem ggX12_sayLine_X12_sayMove : GoodIn wsX12_sayLine wsX12_sayMove := goodIn_r _ [9, 1, 10, 11, 12, 13, 14, 15, 16, 17, 2, 18, 19, 20, 8, 21, 22, 23, 24, 25, 26, 27, 28, 29, 30, 31, 32, 33, 34, 35, 36, 37, 38, 39, 40, 41, 42, 43, 44, 45, 46, 47, 48, 49, 50, 51, 52, 53, 54, 55, 56, 57, 58, 59, 60, 61, 62, 63, 64, 65, 66, 67, 68, 69, 70, 71, 72, 73, 74, 75, 76, 77, 78, 79, 80, 81, 82, 83, 84, 85, 86, 87, 88, 89, 90, 91, 92, 93, 94, 95, 96, 97, 98, 99, 100, 101, 102, 103, 104, 105, 106, 107, 108, 109, 110, 111, 112, 113, 114, 115, 116, 117, 118, 119, 120, 121, 122, 123, 124, 125, 126, 127, 128, 129, 130, 131, 132, 133, 134, 135, 136, 137, 138, 139, 140, 141, 142, 143, 144, 145, 146, 147, 148, 149, 150, 151, 152, 153, 154, 155, 159, 160, 161, 162, 163, 164, 165, 166, 167, 168, 169, 170, 171, 172, 173, 174, 175, 176, 177, 178, 179, 180, 181, 182, 183, 184, 185, 186, 187, 188, 189, 190, 191, 192, 193, 194, 195, 196, 197, 198] rfl (by decide +kernel)
set_option maxRecDepth 20000 in
theorem gX12_sayLine_X12_sayMove : GoodIn wsX12_sayLine (wsV RX12 379 RX12 yX12_sayMove wsX12_sayMove) := goodIn_app (goodIn_of _ (by decide +kernel)) ggX12_sayLine_X12_sayMove
set_option maxRecDepth 20000 in
theorem ggX12_sayLine_X12_ink : GoodIn wsX12_sayLine wsX12_ink := goodIn_r _ [113, 114, 115, 159, 160, 161, 162, 163, 164, 165, 166, 167, 168, 169, 170, 171, 172, 173, 174, 175, 176, 177, 178, 179, 180, 181, 182, 183, 184, 185, 186, 187, 188, 189, 190, 191, 192, 193, 194, 195, 196, 197, 198] rfl (by decide +kernel)
set_option maxRecDepth 20000 in
theorem gX12_sayLine_X12_ink : GoodIn wsX12_sayLine (wsV RX12 367 RX12 yX12_ink wsX12_ink) := goodIn_app (goodIn_of _ (by decide +kernel)) ggX12_sayLine_X12_ink
set_option maxRecDepth 20000 in
theorem ggX12_sayLine_X12_sayLine : GoodIn wsX12_sayLine wsX12_sayLine := goodIn_r _ [0, 1, 2, 3, 4, 5, 6, 7, 8, 9, 10, 11, 12, 13, 14, 15, 16, 17, 18, 19, 20, 21, 22, 23, 24, 25, 26, 27, 28, 29, 30, 31, 32, 33, 34, 35, 36, 37, 38, 39, 40, 41, 42, 43, 44, 45, 46, 47, 48, 49, 50, 51, 52, 53, 54, 55, 56, 57, 58, 59, 60, 61, 62, 63, 64, 65, 66, 67, 68, 69, 70, 71, 72, 73, 74, 75, 76, 77, 78, 79, 80, 81, 82, 83, 84, 85, 86, 87, 88, 89, 90, 91, 92, 93, 94, 95, 96, 97, 98, 99, 100, 101, 102, 103, 104, 105, 106, 107, 108, 109, 110, 111, 112, 113, 114, 115, 116, 117, 118, 119, 120, 121, 122, 123, 124, 125, 126, 127, 128, 129, 130, 131, 132, 133, 134, 135, 136, 137, 138, 139, 140, 141, 142, 143, 144, 145, 146, 147, 148, 149, 150, 151, 152, 153, 154, 155, 156, 157, 158, 159, 160, 161, 162, 163, 164, 165, 166, 167, 168, 169, 170, 171, 172, 173, 174, 175, 176, 177, 178, 179, 180, 181, 182, 183, 184, 185, 186, 187, 188, 189, 190, 191, 192, 193, 194, 195, 196, 197, 198] rfl (by decide +kernel)
set_option maxRecDepth 20000 in
theorem gX12_sayLine_X12_sayLine : GoodIn wsX12_sayLine (wsV RX12 383 RX12 yX12_sayLine wsX12_sayLine) := goodIn_app (goodIn_of _ (by decide +kernel)) ggX12_sayLine_X12_sayLine
set_option maxRecDepth 20000 in
theorem ggX12_write_X12_ink : GoodIn wsX12_write wsX12_ink := goodIn_r _ [17, 18, 2, 174, 175, 176, 177, 178, 179, 180, 181, 182, 183, 184, 185, 186, 187, 188, 189, 190, 191, 192, 193, 194, 195, 196, 197, 198, 199, 200, 201, 202, 203, 204, 205, 206, 207, 208, 209, 210, 211, 212, 213] rfl (by decide +kernel)
set_option maxRecDepth 20000 in
theorem gX12_write_X12_ink : GoodIn wsX12_write (wsV RX12 367 RX12 yX12_ink wsX12_ink) := goodIn_app (goodIn_of _ (by decide +kernel)) ggX12_write_X12_ink
set_option maxRecDepth 20000 in
theorem ggX12_write_X12_sayRemark : GoodIn wsX12_write wsX12_sayRemark := goodIn_r _ [22, 9, 23, 13, 14, 15, 16, 17, 18, 2, 174, 175, 176, 177, 178, 179, 180, 181, 182, 183, 184, 185, 186, 187, 188, 189, 190, 191, 192, 193, 194, 195, 196, 197, 198, 199, 200, 201, 202, 203, 204, 205, 206, 207, 208, 209, 210, 211, 212, 213] rfl (by decide +kernel)
set_option maxRecDepth 20000 in
theorem gX12_write_X12_sayRemark : GoodIn wsX12_write (wsV RX12 376 RX12 yX12_sayRemark wsX12_sayRemark) := goodIn_app (goodIn_of _ (by decide +kernel)) ggX12_write_X12_sayRemark
set_option maxRecDepth 20000 in
theorem ggX12_write_X12_sayLine : GoodIn wsX12_write wsX12_sayLine := goodIn_r _ [27, 4, 9, 28, 10, 29, 30, 31, 16, 32, 33, 34, 35, 36, 37, 38, 39, 40, 41, 42, 43, 44, 45, 46, 47, 48, 49, 50, 51, 52, 53, 54, 55, 56, 57, 58, 59, 60, 61, 62, 63, 64, 65, 66, 67, 68, 69, 70, 71, 72, 73, 74, 75, 76, 77, 78, 79, 80, 81, 82, 83, 84, 85, 86, 87, 88, 89, 90, 91, 92, 93, 94, 95, 96, 97, 98, 99, 100, 101, 102, 103, 104, 105, 106, 107, 108, 109, 110, 111, 112, 113, 114, 115, 116, 117, 118, 119, 120, 121, 122, 123, 124, 125, 126, 127, 128, 129, 130, 131, 132, 13, 14, 15, 17, 18, 2, 133, 134, 135, 136, 137, 138, 139, 140, 141, 142, 143, 144, 145, 146, 147, 148, 149, 150, 151, 152, 153, 154, 155, 156, 157, 158, 159, 160, 161, 162, 163, 164, 165, 166, 167, 19, 20, 21, 22, 23, 24, 25, 26, 174, 175, 176, 177, 178, 179, 180, 181, 182, 183, 184, 185, 186, 187, 188, 189, 190, 191, 192, 193, 194, 195, 196, 197, 198, 199, 200, 201, 202, 203, 204, 205, 206, 207, 208, 209, 210, 211, 212, 213] rfl (by decide +kernel)
set_option maxRecDepth 20000 in
theorem gX12_write_X12_sayLine : GoodIn wsX12_write (wsV RX12 383 RX12 yX12_sayLine wsX12_sayLine) := goodIn_app (goodIn_of _ (by decide +kernel)) ggX12_write_X12_sayLine
set_option maxRecDepth 20000 in
theorem ggX12_write_X12_resultSize : GoodIn wsX12_write wsX12_resultSize := goodIn_r _ [170] rfl (by decide +kernel)
set_option maxRecDepth 20000 in
theorem gX12_write_X12_resultSize : GoodIn wsX12_write (va_wsS RX12 340 yX12_resultSize wsX12_resultSize) := goodIn_app (goodIn_of _ (by decide +kernel)) ggX12_write_X12_resultSize
set_option maxRecDepth 20000 in
theorem ggX12_write_X12_resultSign : GoodIn wsX12_write wsX12_resultSign := goodIn_r _ [173] rfl (by decide +kernel)
set_option maxRecDepth 20000 in
theorem gX12_write_X12_resultSign : GoodIn wsX12_write (va_wsS RX12 343 yX12_resultSign wsX12_resultSign) := goodIn_app (goodIn_of _ (by decide +kernel)) ggX12_write_X12_resultSign
set_option maxRecDepth 20000 in
theorem ggX12_write_X12_place : GoodIn wsX12_write wsX12_place := goodIn_r _ [44, 45, 33, 46, 47, 48, 34, 49, 50, 51, 35, 36, 52, 53, 54, 16, 55, 56, 57, 58, 59, 60, 61, 62, 63, 64, 65, 66, 67, 68, 69, 70, 71, 72, 73, 74, 75, 76, 77, 78, 79, 80, 81, 82, 83, 84, 85, 86, 87, 88, 89, 90, 91, 92, 93, 94, 95, 96, 97, 98, 99, 100, 101, 102, 103, 104, 105, 106, 107, 108, 109, 110, 111, 112, 113, 114, 115, 116, 117, 118, 119, 120, 121, 122, 123, 124, 125, 126, 127, 128, 174, 175, 176, 177, 178, 179, 180, 181, 182, 183, 184, 185, 186, 187, 188, 189, 190, 191, 192, 193, 194, 195, 196, 197, 198, 199, 200, 201, 202, 203, 204, 205, 206, 207, 208, 209, 210, 211, 212, 213] rfl (by decide +kernel)
set_option maxRecDepth 20000 in
theorem gX12_write_X12_place : GoodIn wsX12_write (wsV RX12 95 RX12 yX12_place wsX12_place) := goodIn_app (goodIn_of _ (by decide +kernel)) ggX12_write_X12_place
set_option maxRecDepth 20000 in
theorem ggX12_signs_X12_isLegal : GoodIn wsX12_signs wsX12_isLegal := goodIn_r _ [10, 11, 12, 121, 122, 123, 124, 125, 126, 127, 128, 129, 130, 131, 132, 133, 134, 135, 136, 137, 138, 139, 140, 141, 142, 143, 144, 145, 146, 147, 148, 149, 150, 151, 152, 153, 154, 155, 156, 157, 158, 159, 160] rfl (by decide +kernel)
set_option maxRecDepth 20000 in
theorem gX12_signs_X12_isLegal : GoodIn wsX12_signs (wsV RX12 386 RX12 yX12_isLegal wsX12_isLegal) := goodIn_app (goodIn_of _ (by decide +kernel)) ggX12_signs_X12_isLegal
set_option maxRecDepth 20000 in
theorem ggX12_signs_X12_spellWhole : GoodIn wsX12_signs wsX12_spellWhole := goodIn_r _ [16, 17, 18, 19, 9, 20, 21, 11, 12, 22, 23, 24, 25, 26, 27, 28, 29, 30, 31, 32, 2, 33, 34, 35, 36, 37, 38, 39, 40, 4, 41, 42, 43, 44, 45, 46, 47, 48, 49, 50, 51, 52, 53, 54, 55, 56, 57, 58, 59, 60, 61, 62, 63, 64, 65, 66, 67, 68, 69, 70, 71, 72, 73, 74, 75, 76, 77, 78, 79, 80, 81, 82, 83, 84, 85, 86, 87, 88, 89, 90, 91, 92, 93, 94, 95, 96, 97, 98, 99, 100, 101, 102, 103, 104, 105, 106, 107, 108, 109, 110, 111, 112, 113, 114, 115, 116, 117, 118, 119, 120, 121, 122, 123, 124, 125, 126, 127, 128, 129, 130, 131, 132, 133, 134, 135, 136, 137, 138, 139, 140, 141, 142, 143, 144, 145, 146, 147, 148, 149, 150, 151, 152, 153, 154, 155, 156, 157, 158, 159, 160] rfl (by decide +kernel)
set_option maxRecDepth 20000 in
theorem gX12_signs_X12_spellWhole : GoodIn wsX12_signs (wsV RX12 373 RX12 yX12_spellWhole wsX12_spellWhole) := goodIn_app (goodIn_of _ (by decide +kernel)) ggX12_signs_X12_spellWhole
set_option maxRecDepth 20000 in
theorem ggX12_node_X12_isNode : GoodIn wsX12_node wsX12_isNode := goodIn_r _ [13, 14, 2, 15, 16, 17, 18, 19, 20, 21, 22, 23, 24, 25, 26, 27, 28, 29, 30, 31, 32, 33, 34, 35, 36, 37, 38, 39, 40, 41, 42, 43, 44, 45, 46, 47, 48, 49, 50, 51, 52, 53, 54] rfl (by decide +kernel)
set_option maxRecDepth 20000 in
theorem gX12_node_X12_isNode : GoodIn wsX12_node (wsV RX12 389 RX12 yX12_isNode wsX12_isNode) := goodIn_app (goodIn_of _ (by decide +kernel)) ggX12_node_X12_isNode
set_option maxRecDepth 20000 in
theorem ggX12_mark_X12_isNode : GoodIn wsX12_mark wsX12_isNode := goodIn_r _ [9, 10, 2, 11, 12, 13, 14, 15, 16, 17, 18, 19, 20, 21, 22, 23, 24, 25, 26, 27, 28, 29, 30, 31, 32, 33, 34, 35, 36, 37, 38, 39, 40, 41, 42, 43, 44, 45, 46, 47, 48, 49, 50] rfl (by decide +kernel)
set_option maxRecDepth 20000 in
theorem gX12_mark_X12_isNode : GoodIn wsX12_mark (wsV RX12 389 RX12 yX12_isNode wsX12_isNode) := goodIn_app (goodIn_of _ (by decide +kernel)) ggX12_mark_X12_isNode
set_option maxRecDepth 20000 in
theorem ggX12_remark_X12_isNode : GoodIn wsX12_remark wsX12_isNode := goodIn_r _ [9, 10, 2, 11, 12, 13, 14, 15, 16, 17, 18, 19, 20, 21, 22, 23, 24, 25, 26, 27, 28, 29, 30, 31, 32, 33, 34, 35, 36, 37, 38, 39, 40, 41, 42, 43, 44, 45, 46, 47, 48, 49, 50] rfl (by decide +kernel)
set_option maxRecDepth 20000 in
theorem gX12_remark_X12_isNode : GoodIn wsX12_remark (wsV RX12 389 RX12 yX12_isNode wsX12_isNode) := goodIn_app (goodIn_of _ (by decide +kernel)) ggX12_remark_X12_isNode
set_option maxRecDepth 20000 in
theorem ggX12_go_X12_isNode : GoodIn wsX12_go wsX12_isNode := goodIn_r _ [8, 9, 3, 102, 103, 104, 105, 106, 107, 108, 109, 110, 111, 112, 113, 114, 115, 116, 117, 118, 119, 120, 121, 122, 123, 124, 125, 126, 127, 128, 129, 130, 131, 132, 133, 134, 135, 136, 137, 138, 139, 140, 141] rfl (by decide +kernel)
set_option maxRecDepth 20000 in
theorem gX12_go_X12_isNode : GoodIn wsX12_go (wsV RX12 389 RX12 yX12_isNode wsX12_isNode) := goodIn_app (goodIn_of _ (by decide +kernel)) ggX12_go_X12_isNode
set_option maxRecDepth 20000 in
theorem ggX12_go_X12_place : GoodIn wsX12_go wsX12_place := goodIn_r _ [13, 14, 15, 16, 17, 18, 19, 20, 21, 22, 23, 24, 25, 26, 27, 7, 28, 29, 30, 31, 32, 33, 34, 35, 36, 37, 38, 39, 40, 41, 42, 43, 44, 45, 46, 47, 48, 49, 50, 51, 52, 53, 54, 55, 56, 57, 58, 59, 60, 61, 62, 63, 64, 65, 66, 67, 68, 69, 70, 71, 72, 73, 74, 75, 76, 77, 78, 79, 80, 81, 82, 83, 84, 85, 86, 87, 88, 89, 90, 91, 92, 93, 94, 95, 96, 97, 98, 99, 100, 101, 102, 103, 104, 105, 106, 107, 108, 109, 110, 111, 112, 113, 114, 115, 116, 117, 118, 119, 120, 121, 122, 123, 124, 125, 126, 127, 128, 129, 130, 131, 132, 133, 134, 135, 136, 137, 138, 139, 140, 141] rfl (by decide +kernel)
set_option maxRecDepth 20000 in
theorem gX12_go_X12_place : GoodIn wsX12_go (wsV RX12 95 RX12 yX12_place wsX12_place) := goodIn_app (goodIn_of _ (by decide +kernel)) ggX12_go_X12_place
set_option maxRecDepth 20000 in
theorem ggX12_add_X12_isLegal : GoodIn wsX12_add wsX12_isLegal := goodIn_r _ [10, 11, 12, 126, 127, 128, 129, 130, 131, 132, 133, 134, 135, 136, 137, 138, 139, 140, 141, 142, 143, 144, 145, 146, 147, 148, 149, 150, 151, 152, 153, 154, 155, 156, 157, 158, 159, 160, 161, 162, 163, 164, 165] rfl (by decide +kernel)
set_option maxRecDepth 20000 in
theorem gX12_add_X12_isLegal : GoodIn wsX12_add (wsV RX12 386 RX12 yX12_isLegal wsX12_isLegal) := goodIn_app (goodIn_of _ (by decide +kernel)) ggX12_add_X12_isLegal
set_option maxRecDepth 20000 in
theorem ggX12_add_X12_childWith : GoodIn wsX12_add wsX12_childWith := goodIn_r _ [16, 4, 17, 18, 126, 127, 128, 129, 130, 131, 132, 133, 134, 135, 136, 137, 138, 139, 140, 141, 142, 143, 144, 145, 146, 147, 148, 149, 150, 151, 152, 153, 154, 155, 156, 157, 158, 159, 160, 161, 162, 163, 164, 165] rfl (by decide +kernel)
set_option maxRecDepth 20000 in
theorem gX12_add_X12_childWith : GoodIn wsX12_add (wsV RX12 310 RX12 yX12_childWith wsX12_childWith) := goodIn_app (goodIn_of _ (by decide +kernel)) ggX12_add_X12_childWith
set_option maxRecDepth 20000 in
theorem ggX12_add_X12_deepOf : GoodIn wsX12_add wsX12_deepOf := goodIn_r _ [22, 23, 24, 25, 26, 9, 27, 4, 126, 127, 128, 129, 130, 131, 132, 133, 134, 135, 136, 137, 138, 139, 140, 141, 142, 143, 144, 145, 146, 147, 148, 149, 150, 151, 152, 153, 154, 155, 156, 157, 158, 159, 160, 161, 162, 163, 164, 165] rfl (by decide +kernel)
set_option maxRecDepth 20000 in
theorem gX12_add_X12_deepOf : GoodIn wsX12_add (wsV RX12 392 RX12 yX12_deepOf wsX12_deepOf) := goodIn_app (goodIn_of _ (by decide +kernel)) ggX12_add_X12_deepOf
set_option maxRecDepth 20000 in
theorem ggX12_add_X12_append : GoodIn wsX12_add wsX12_append := goodIn_r _ [31, 5, 23, 17, 4, 18, 32, 33, 34, 9, 35, 36, 37, 126, 127, 128, 129, 130, 131, 132, 133, 134, 135, 136, 137, 138, 139, 140, 141, 142, 143, 144, 145, 146, 147, 148, 149, 150, 151, 152, 153, 154, 155, 156, 157, 158, 159, 160, 161, 162, 163, 164, 165] rfl (by decide +kernel)
set_option maxRecDepth 20000 in
theorem gX12_add_X12_append : GoodIn wsX12_add (wsV RX12 313 RX12 yX12_append wsX12_append) := goodIn_app (goodIn_of _ (by decide +kernel)) ggX12_add_X12_append
set_option maxRecDepth 20000 in
theorem ggX12_add_X12_place : GoodIn wsX12_add wsX12_place := goodIn_r _ [41, 42, 23, 43, 44, 45, 46, 47, 48, 49, 50, 17, 51, 52, 53, 9, 54, 55, 56, 57, 58, 59, 60, 61, 62, 63, 64, 65, 66, 67, 68, 69, 70, 71, 72, 73, 74, 75, 76, 11, 12, 77, 78, 79, 80, 81, 82, 83, 84, 85, 86, 87, 88, 89, 90, 91, 92, 93, 94, 95, 96, 97, 98, 99, 100, 101, 102, 103, 104, 105, 106, 107, 108, 109, 110, 111, 112, 113, 114, 115, 116, 117, 118, 119, 120, 121, 122, 123, 124, 125, 126, 127, 128, 129, 130, 131, 132, 133, 134, 135, 136, 137, 138, 139, 140, 141, 142, 143, 144, 145, 146, 147, 148, 149, 150, 151, 152, 153, 154, 155, 156, 157, 158, 159, 160, 161, 162, 163, 164, 165] rfl (by decide +kernel)
set_option maxRecDepth 20000 in
theorem gX12_add_X12_place : GoodIn wsX12_add (wsV RX12 95 RX12 yX12_place wsX12_place) := goodIn_app (goodIn_of _ (by decide +kernel)) ggX12_add_X12_place
set_option maxRecDepth 20000 in
theorem ggX12_addMark_X12_addMarkTo : GoodIn wsX12_addMark wsX12_addMarkTo := goodIn_r _ [9, 10, 2, 11, 12, 13, 14, 15, 16, 17, 18, 19, 20, 21, 22, 23, 24, 25, 26, 27, 28, 29, 30, 31, 32, 33, 34, 35, 36, 37, 38, 39, 40, 41, 42, 43, 44, 45, 46, 47, 48, 49, 50] rfl (by decide +kernel)
set_option maxRecDepth 20000 in
theorem gX12_addMark_X12_addMarkTo : GoodIn wsX12_addMark (wsV RX12 303 RX12 yX12_addMarkTo wsX12_addMarkTo) := goodIn_app (goodIn_of _ (by decide +kernel)) ggX12_addMark_X12_addMarkTo
set_option maxRecDepth 20000 in
theorem ggX12_lead_X12_isBehind : GoodIn wsX12_lead wsX12_isBehind := goodIn_r _ [12, 3, 4, 21, 22, 23, 24, 25, 26, 27, 28, 29, 30, 31, 32, 33, 34, 35, 36, 37, 38, 39, 40, 41, 42, 43, 44, 45, 46, 47, 48, 49, 50, 51, 52, 53, 54, 55, 56, 57, 58, 59, 60] rfl (by decide +kernel)
set_option maxRecDepth 20000 in
theorem gX12_lead_X12_isBehind : GoodIn wsX12_lead (wsV RX12 395 RX12 yX12_isBehind wsX12_isBehind) := goodIn_app (goodIn_of _ (by decide +kernel)) ggX12_lead_X12_isBehind
set_option maxRecDepth 20000 in
theorem ggX12_lead_X12_deepOf : GoodIn wsX12_lead wsX12_deepOf := goodIn_r _ [16, 3, 17, 18, 19, 11, 20, 5, 21, 22, 23, 24, 25, 26, 27, 28, 29, 30, 31, 32, 33, 34, 35, 36, 37, 38, 39, 40, 41, 42, 43, 44, 45, 46, 47, 48, 49, 50, 51, 52, 53, 54, 55, 56, 57, 58, 59, 60] rfl (by decide +kernel)
set_option maxRecDepth 20000 in
theorem gX12_lead_X12_deepOf : GoodIn wsX12_lead (wsV RX12 392 RX12 yX12_deepOf wsX12_deepOf) := goodIn_app (goodIn_of _ (by decide +kernel)) ggX12_lead_X12_deepOf
