set_option maxRecDepth 20000 in
theorem ggL_crowded_X5_crowded : GoodIn wsL_crowded wsX5_crowded := goodIn_ca (goodIn_r _ [6, 7, 8, 9, 10, 11, 12, 13, 14, 15, 5, 16, 17, 18, 19, 20, 21, 22, 23, 24, 25, 26, 27, 28, 29, 30, 31, 32, 33, 34, 35, 36, 37, 38, 39, 40, 41, 42, 43, 44, 45, 46, 47, 48, 49, 50, 51, 52, 53, 54, 55, 56, 57, 58, 59, 60, 61, 62, 63, 64, 65, 66, 67, 68, 69, 70, 71, 72, 73, 74, 75, 76, 77, 78, 79, 80, 81, 82, 83, 84, 85, 86, 87, 88, 89, 90, 91, 92, 93, 94, 95, 96, 97, 98, 99, 100, 101, 102, 103, 104, 105, 106, 107, 108, 109, 110, 111, 112, 113, 114, 115, 116, 117, 118, 119, 120, 121, 122, 123, 124, 125, 126, 127, 128, 129, 130, 131, 132, 133, 134, 135, 136, 137, 138, 139, 140, 141, 142, 143, 144, 145, 146, 147, 148, 149, 150, 151, 152, 153, 154, 155, 156, 157, 158, 159, 160, 161, 162, 163, 164, 165, 166, 167, 168, 169, 170, 171, 172, 173, 174, 175, 176, 177, 178, 179, 180, 181, 182, 183, 184, 185, 186, 187, 188, 189, 190, 191, 192, 193, 194, 195, 196, 197, 198, 199, 200, 201, 202, 203, 204, 205, 206, 207, 208, 209, 210, 211, 212, 213, 214, 215, 216, 217, 218, 219, 220, 221, 222, 223, 224, 225, 226, 227, 228, 229, 230, 231, 232, 233, 234, 235, 236] rfl (by decide +kernel)) (goodIn_sub (fun _ h => List.mem_cons_of_mem _ (List.mem_append_right _ h)) (by decide +kernel))
set_option maxRecDepth 20000 in
theorem gL_crowded_X5_crowded : GoodIn wsL_crowded (wsV RL 7 RX5 yX5_crowded wsX5_crowded) := goodIn_app (goodIn_r _ [2, 3, 4, 5] rfl (by decide +kernel)) ggL_crowded_X5_crowded
set_option maxRecDepth 20000 in
theorem ggL_law_L_cell : GoodIn wsL_law wsL_cell := goodIn_r _ [10] rfl (by decide +kernel)
set_option maxRecDepth 20000 in
theorem gL_law_L_cell : GoodIn wsL_law (va_wsS RL 15 yL_cell wsL_cell) := goodIn_app (goodIn_r _ [7, 8, 9] rfl (by decide +kernel)) ggL_law_L_cell
set_option maxRecDepth 20000 in
theorem ggL_law_X5_init : GoodIn wsL_law wsX5_init := goodIn_r _ [13, 14, 15, 16, 17, 18, 19, 20, 21, 22, 23, 24, 25, 26, 27, 28, 29, 30, 31, 32, 33, 34, 35, 36, 37, 38, 39, 40, 41, 42, 43, 44, 45, 46, 47, 48, 49, 50, 51, 52, 53, 54, 55, 56, 57, 58, 59, 60, 61, 62, 63, 64, 65, 66, 67, 68, 69, 70, 71, 72, 73, 74, 75, 76, 77, 78, 79, 80, 81, 82, 83, 84, 85, 86, 87, 88, 89, 90, 91, 92, 93, 2, 94, 596, 597, 598, 599, 600, 601, 566, 567, 568, 569, 570, 571, 572, 602, 603, 604, 605, 606, 607, 608, 609, 610, 611, 612, 613, 614, 615, 616, 617, 618, 619, 620, 621, 622, 623, 624, 625, 626, 627, 628, 629, 630, 631, 632, 633] rfl (by decide +kernel)
set_option maxRecDepth 20000 in
theorem gL_law_X5_init : GoodIn wsL_law (wsX5_init) := ggL_law_X5_init
set_option maxRecDepth 20000 in
theorem ggL_law_X6_init : GoodIn wsL_law wsX6_init := goodIn_r _ [97, 98, 15, 16, 38, 99, 100, 101, 102, 103, 104, 105, 106, 107, 108, 109, 110, 111, 112, 113, 114, 115, 116, 117, 118, 573, 574, 575, 576, 577, 578, 579, 580, 581, 582, 583, 584, 585, 586, 587, 588, 589, 590, 591, 592, 593, 594, 595] rfl (by decide +kernel)
set_option maxRecDepth 20000 in
theorem gL_law_X6_init : GoodIn wsL_law (wsX6_init) := ggL_law_X6_init
set_option maxRecDepth 20000 in
theorem ggL_law_X5_clef : GoodIn wsL_law wsX5_clef := goodIn_r _ [122, 123, 20, 28, 124, 125, 126, 2, 127, 92, 93, 94, 128, 46, 47, 19, 48, 39, 566, 567, 568, 569, 570, 571, 572, 609, 610, 611, 612, 613, 614, 615, 616, 617, 618, 619, 620, 621, 622, 623, 596, 597, 598, 599, 600, 601] rfl (by decide +kernel)
set_option maxRecDepth 20000 in
theorem gL_law_X5_clef : GoodIn wsL_law (wsV RL 27 RX5 yX5_clef wsX5_clef) := goodIn_app (goodIn_r _ [119, 120, 121, 2] rfl (by decide +kernel)) ggL_law_X5_clef
set_option maxRecDepth 20000 in
theorem ggL_law_X6_clef : GoodIn wsL_law wsX6_clef := goodIn_r _ [132, 133, 99, 100, 134, 135, 5, 136, 137, 138, 139, 573, 574, 575, 576, 577, 578, 579, 580, 581, 582, 583, 584, 585, 586, 587, 588, 589, 590, 591, 592, 593, 594, 595] rfl (by decide +kernel)
set_option maxRecDepth 20000 in
theorem gL_law_X6_clef : GoodIn wsL_law (wsV RL 31 RX6 yX6_clef wsX6_clef) := goodIn_app (goodIn_r _ [129, 130, 131, 5] rfl (by decide +kernel)) ggL_law_X6_clef
set_option maxRecDepth 20000 in
theorem ggL_law_X5_shift : GoodIn wsL_law wsX5_shift := goodIn_r _ [143, 20, 144, 28, 124, 125, 126, 2, 127, 92, 93, 94, 145, 146, 147, 148, 149, 150, 19, 151, 40, 44, 41, 42, 43, 566, 567, 568, 569, 570, 571, 572, 596, 597, 598, 599, 600, 601, 609, 610, 611, 612, 613, 614, 615, 616, 617, 618, 619, 620, 621, 622, 623] rfl (by decide +kernel)
set_option maxRecDepth 20000 in
theorem gL_law_X5_shift : GoodIn wsL_law (wsV RL 32 RX5 yX5_shift wsX5_shift) := goodIn_app (goodIn_r _ [140, 141, 142, 2] rfl (by decide +kernel)) ggL_law_X5_shift
set_option maxRecDepth 20000 in
theorem ggL_law_X6_shift : GoodIn wsL_law wsX6_shift := goodIn_r _ [155, 133, 156, 101, 102, 103, 104, 134, 135, 5, 136, 137, 138, 139, 573, 574, 575, 576, 577, 578, 579, 580, 581, 582, 583, 584, 585, 586, 587, 588, 589, 590, 591, 592, 593, 594, 595] rfl (by decide +kernel)
set_option maxRecDepth 20000 in
theorem gL_law_X6_shift : GoodIn wsL_law (wsV RL 36 RX6 yX6_shift wsX6_shift) := goodIn_app (goodIn_r _ [152, 153, 154, 5] rfl (by decide +kernel)) ggL_law_X6_shift
set_option maxRecDepth 20000 in
theorem ggL_law_X5_plain : GoodIn wsL_law wsX5_plain := goodIn_r _ [160, 20, 144, 28, 124, 566, 567, 568, 569, 570, 571, 572, 596, 597, 598, 599, 600, 601, 609, 610, 611, 612, 613, 614, 615, 616, 617, 618, 619, 620, 621, 622, 623] rfl (by decide +kernel)
set_option maxRecDepth 20000 in
theorem gL_law_X5_plain : GoodIn wsL_law (wsV RL 37 RX5 yX5_plain wsX5_plain) := goodIn_app (goodIn_r _ [157, 158, 159, 2] rfl (by decide +kernel)) ggL_law_X5_plain
set_option maxRecDepth 20000 in
theorem ggL_law_X6_plain : GoodIn wsL_law wsX6_plain := goodIn_r _ [164, 133, 156, 573, 574, 575, 576, 577, 578, 579, 580, 581, 582, 583, 584, 585, 586, 587, 588, 589, 590, 591, 592, 593, 594, 595] rfl (by decide +kernel)
set_option maxRecDepth 20000 in
theorem gL_law_X6_plain : GoodIn wsL_law (wsV RL 41 RX6 yX6_plain wsX6_plain) := goodIn_app (goodIn_r _ [161, 162, 163, 5] rfl (by decide +kernel)) ggL_law_X6_plain
set_option maxRecDepth 20000 in
theorem ggL_law_X5_note : GoodIn wsL_law wsX5_note := goodIn_r _ [168, 24, 169, 28, 124, 125, 126, 2, 127, 92, 93, 94, 145, 146, 147, 170, 171, 172, 173, 174, 175, 23, 176, 52, 58, 53, 54, 55, 56, 57, 566, 567, 568, 569, 570, 571, 572, 602, 603, 604, 605, 606, 607, 608, 609, 610, 611, 612, 613, 614, 615, 616, 617, 618, 619, 620, 621, 622, 623] rfl (by decide +kernel)
set_option maxRecDepth 20000 in
theorem gL_law_X5_note : GoodIn wsL_law (wsV RL 42 RX5 yX5_note wsX5_note) := goodIn_app (goodIn_r _ [165, 166, 167, 2] rfl (by decide +kernel)) ggL_law_X5_note
set_option maxRecDepth 20000 in
theorem ggL_law_X6_note : GoodIn wsL_law wsX6_note := goodIn_r _ [180, 133, 181, 105, 106, 107, 108, 109, 110, 134, 135, 5, 136, 137, 138, 139, 573, 574, 575, 576, 577, 578, 579, 580, 581, 582, 583, 584, 585, 586, 587, 588, 589, 590, 591, 592, 593, 594, 595] rfl (by decide +kernel)
set_option maxRecDepth 20000 in
theorem gL_law_X6_note : GoodIn wsL_law (wsV RL 46 RX6 yX6_note wsX6_note) := goodIn_app (goodIn_r _ [177, 178, 179, 5] rfl (by decide +kernel)) ggL_law_X6_note
set_option maxRecDepth 20000 in
theorem ggL_law_X5_drop : GoodIn wsL_law wsX5_drop := goodIn_r _ [185, 24, 28, 124, 169, 186, 187, 188, 23, 189, 58, 93, 2, 94, 190, 191, 192, 193, 52, 53, 54, 55, 56, 57, 566, 567, 568, 569, 570, 571, 572, 609, 610, 611, 612, 613, 614, 615, 616, 617, 618, 619, 620, 621, 622, 623, 602, 603, 604, 605, 606, 607, 608] rfl (by decide +kernel)
set_option maxRecDepth 20000 in
theorem gL_law_X5_drop : GoodIn wsL_law (wsV RL 47 RX5 yX5_drop wsX5_drop) := goodIn_app (goodIn_r _ [182, 183, 184, 2] rfl (by decide +kernel)) ggL_law_X5_drop
set_option maxRecDepth 20000 in
theorem ggL_law_X6_drop : GoodIn wsL_law wsX6_drop := goodIn_r _ [197, 133, 181, 105, 106, 107, 108, 109, 110, 198, 199, 200, 5, 201, 137, 138, 139, 573, 574, 575, 576, 577, 578, 579, 580, 581, 582, 583, 584, 585, 586, 587, 588, 589, 590, 591, 592, 593, 594, 595] rfl (by decide +kernel)
set_option maxRecDepth 20000 in
theorem gL_law_X6_drop : GoodIn wsL_law (wsV RL 50 RX6 yX6_drop wsX6_drop) := goodIn_app (goodIn_r _ [194, 195, 196, 5] rfl (by decide +kernel)) ggL_law_X6_drop
set_option maxRecDepth 20000 in
theorem ggL_law_X5_of : GoodIn wsL_law wsX5_of := goodIn_r _ [205, 24, 28, 20, 206, 207, 208, 209, 210, 211, 186, 187, 188, 23, 189, 58, 93, 2, 94, 212, 213, 214, 27, 215, 62, 216, 63, 217, 218, 219, 71, 220, 221, 222, 223, 68, 69, 70, 72, 73, 74, 224, 225, 226, 227, 228, 229, 230, 19, 231, 44, 40, 41, 42, 43, 39, 232, 233, 234, 235, 236, 237, 78, 65, 238, 82, 239, 240, 241, 242, 243, 244, 245, 246, 247, 248, 77, 249, 250, 251, 252, 253, 254, 255, 81, 256, 257, 258, 259, 260, 261, 52, 54, 262, 263, 264, 265, 266, 267, 268, 269, 270, 271, 272, 273, 274, 86, 275, 276, 277, 278, 90, 279, 280, 281, 282, 283, 64, 284, 285, 286, 287, 288, 289, 290, 291, 292, 293, 294, 295, 296, 297, 298, 299, 300, 301, 302, 303, 304, 305, 306, 307, 308, 309, 310, 311, 312, 313, 314, 315, 316, 317, 318, 319, 320, 321, 322, 323, 324, 325, 326, 66, 67, 327, 328, 329, 330, 331, 332, 333, 334, 335, 336, 337, 338, 339, 340, 91, 341, 342, 343, 344, 345, 346, 347, 348, 349, 350, 351, 566, 567, 568, 569, 570, 571, 572, 609, 610, 611, 612, 613, 614, 615, 616, 617, 618, 619, 620, 621, 622, 623, 602, 603, 604, 605, 606, 607, 608, 596, 597, 598, 599, 600, 601, 624, 625, 626, 627, 628, 629, 630, 631, 632, 633] rfl (by decide +kernel)
set_option maxRecDepth 20000 in
theorem gL_law_X5_of : GoodIn wsL_law (wsV RL 51 RX5 yX5_of wsX5_of) := goodIn_app (goodIn_r _ [202, 203, 204, 2] rfl (by decide +kernel)) ggL_law_X5_of
set_option maxRecDepth 20000 in
theorem ggL_law_X6_of : GoodIn wsL_law wsX6_of := goodIn_r _ [355, 133, 105, 107, 115, 116, 114, 106, 198, 199, 200, 5, 201, 181, 137, 138, 139, 356, 357, 358, 359, 113, 360, 361, 362, 363, 99, 156, 101, 102, 103, 104, 108, 100, 364, 365, 366, 367, 368, 369, 370, 371, 372, 373, 374, 375, 376, 377, 378, 379, 380, 381, 382, 383, 384, 385, 386, 387, 388, 389, 390, 391, 392, 393, 394, 395, 396, 397, 398, 399, 400, 401, 402, 403, 404, 405, 406, 407, 408, 409, 410, 411, 110, 109, 412, 413, 414, 415, 416, 417, 418, 419, 573, 574, 575, 576, 577, 578, 579, 580, 581, 582, 583, 584, 585, 586, 587, 588, 589, 590, 591, 592, 593, 594, 595] rfl (by decide +kernel)
set_option maxRecDepth 20000 in
theorem gL_law_X6_of : GoodIn wsL_law (wsV RL 55 RX6 yX6_of wsX6_of) := goodIn_app (goodIn_r _ [352, 353, 354, 5] rfl (by decide +kernel)) ggL_law_X6_of
set_option maxRecDepth 20000 in
theorem ggL_law_X5_height : GoodIn wsL_law wsX5_height := goodIn_r _ [423, 24, 424, 28, 20, 33, 206, 425, 186, 187, 188, 23, 189, 58, 93, 2, 94, 212, 213, 214, 27, 215, 62, 216, 63, 217, 218, 219, 71, 220, 221, 222, 223, 68, 69, 70, 72, 73, 74, 224, 225, 226, 227, 228, 229, 230, 19, 231, 44, 40, 41, 42, 43, 39, 232, 233, 234, 235, 236, 237, 78, 65, 238, 82, 239, 240, 241, 242, 243, 244, 245, 246, 247, 248, 77, 249, 250, 251, 252, 253, 254, 255, 81, 256, 257, 258, 259, 260, 261, 52, 54, 262, 263, 264, 265, 266, 267, 268, 269, 270, 271, 272, 273, 274, 86, 275, 276, 277, 278, 90, 279, 280, 281, 282, 283, 64, 284, 285, 286, 287, 288, 289, 290, 291, 292, 293, 294, 295, 296, 297, 298, 299, 300, 301, 302, 303, 304, 305, 306, 307, 308, 309, 310, 311, 312, 313, 314, 315, 316, 317, 318, 319, 320, 321, 322, 323, 324, 325, 326, 66, 67, 327, 328, 329, 330, 331, 332, 333, 334, 335, 336, 337, 338, 339, 340, 91, 341, 342, 343, 344, 345, 346, 347, 348, 349, 350, 351, 426, 427, 428, 429, 430, 431, 432, 433, 31, 434, 435, 436, 437, 438, 439, 440, 441, 442, 443, 444, 445, 30, 446, 447, 29, 448, 449, 566, 567, 568, 569, 570, 571, 572, 609, 610, 611, 612, 613, 614, 615, 616, 617, 618, 619, 620, 621, 622, 623, 602, 603, 604, 605, 606, 607, 608, 596, 597, 598, 599, 600, 601, 624, 625, 626, 627, 628, 629, 630, 631, 632, 633] rfl (by decide +kernel)
set_option maxRecDepth 20000 in
theorem gL_law_X5_height : GoodIn wsL_law (wsV RL 56 RX5 yX5_height wsX5_height) := goodIn_app (goodIn_r _ [420, 421, 422, 2] rfl (by decide +kernel)) ggL_law_X5_height
set_option maxRecDepth 20000 in
theorem ggL_law_X6_height : GoodIn wsL_law wsX6_height := goodIn_r _ [453, 133, 118, 105, 454, 356, 357, 358, 5, 359, 181, 113, 360, 361, 362, 363, 99, 156, 101, 107, 102, 103, 104, 108, 100, 137, 138, 139, 198, 199, 200, 201, 364, 365, 366, 367, 455, 456, 457, 458, 459, 460, 461, 462, 463, 464, 465, 466, 467, 112, 111, 468, 469, 470, 471, 472, 473, 474, 475, 110, 106, 384, 385, 386, 387, 368, 369, 370, 371, 372, 373, 374, 375, 376, 377, 378, 379, 380, 381, 382, 383, 388, 389, 390, 391, 476, 477, 478, 479, 573, 574, 575, 576, 577, 578, 579, 580, 581, 582, 583, 584, 585, 586, 587, 588, 589, 590, 591, 592, 593, 594, 595] rfl (by decide +kernel)
set_option maxRecDepth 20000 in
theorem gL_law_X6_height : GoodIn wsL_law (wsV RL 60 RX6 yX6_height wsX6_height) := goodIn_app (goodIn_r _ [450, 451, 452, 5] rfl (by decide +kernel)) ggL_law_X6_height
set_option maxRecDepth 20000 in
theorem ggL_law_X5_at : GoodIn wsL_law wsX5_at := goodIn_r _ [483, 28, 24, 20, 447, 446, 484, 485, 486, 125, 126, 2, 127, 92, 93, 94, 145, 146, 147, 212, 213, 214, 27, 215, 62, 216, 63, 217, 218, 219, 71, 220, 221, 222, 223, 68, 69, 70, 72, 73, 74, 224, 225, 226, 227, 228, 229, 230, 19, 231, 44, 40, 41, 42, 43, 39, 232, 233, 234, 235, 236, 237, 78, 65, 238, 82, 239, 240, 241, 242, 243, 244, 245, 246, 247, 248, 77, 249, 250, 251, 252, 253, 254, 255, 81, 256, 257, 258, 259, 260, 23, 261, 52, 54, 262, 263, 264, 265, 266, 267, 268, 269, 270, 271, 272, 273, 274, 86, 275, 276, 277, 278, 90, 279, 280, 281, 282, 283, 64, 284, 285, 286, 287, 288, 289, 290, 291, 292, 293, 294, 295, 296, 297, 298, 299, 300, 301, 302, 303, 304, 305, 306, 307, 308, 309, 310, 311, 312, 313, 314, 315, 316, 317, 318, 319, 320, 321, 322, 323, 324, 325, 326, 66, 67, 327, 328, 329, 330, 331, 332, 333, 334, 335, 336, 337, 338, 339, 340, 91, 341, 342, 343, 344, 345, 346, 347, 348, 349, 350, 351, 449, 566, 567, 568, 569, 570, 571, 572, 609, 610, 611, 612, 613, 614, 615, 616, 617, 618, 619, 620, 621, 622, 623, 602, 603, 604, 605, 606, 607, 608, 596, 597, 598, 599, 600, 601, 624, 625, 626, 627, 628, 629, 630, 631, 632, 633] rfl (by decide +kernel)
set_option maxRecDepth 20000 in
theorem gL_law_X5_at : GoodIn wsL_law (wsV RL 61 RX5 yX5_at wsX5_at) := goodIn_app (goodIn_r _ [480, 481, 482, 2] rfl (by decide +kernel)) ggL_law_X5_at
set_option maxRecDepth 20000 in
theorem ggL_law_X6_at : GoodIn wsL_law wsX6_at := goodIn_r _ [490, 133, 181, 116, 134, 135, 5, 136, 137, 138, 139, 376, 377, 378, 379, 380, 381, 382, 383, 106, 384, 385, 386, 387, 105, 107, 356, 357, 358, 359, 113, 360, 361, 362, 363, 99, 156, 101, 102, 103, 104, 108, 100, 412, 413, 414, 415, 109, 364, 365, 366, 367, 416, 417, 418, 419, 472, 473, 474, 475, 110, 368, 369, 370, 371, 372, 373, 374, 375, 388, 389, 390, 391, 476, 477, 478, 479, 573, 574, 575, 576, 577, 578, 579, 580, 581, 582, 583, 584, 585, 586, 587, 588, 589, 590, 591, 592, 593, 594, 595] rfl (by decide +kernel)
set_option maxRecDepth 20000 in
theorem gL_law_X6_at : GoodIn wsL_law (wsV RL 64 RX6 yX6_at wsX6_at) := goodIn_app (goodIn_r _ [487, 488, 489, 5] rfl (by decide +kernel)) ggL_law_X6_at
set_option maxRecDepth 20000 in
theorem ggL_law_X5_shared : GoodIn wsL_law wsX5_shared := goodIn_r _ [494, 24, 28, 20, 186, 187, 188, 23, 189, 58, 93, 2, 94, 212, 213, 214, 27, 215, 62, 216, 63, 217, 218, 219, 71, 220, 221, 222, 223, 68, 69, 70, 72, 73, 74, 224, 225, 226, 227, 228, 229, 230, 19, 231, 44, 40, 41, 42, 43, 39, 232, 233, 234, 235, 236, 237, 78, 65, 238, 82, 239, 240, 241, 242, 243, 244, 245, 246, 247, 248, 77, 249, 250, 251, 252, 253, 254, 255, 81, 256, 257, 258, 259, 260, 261, 52, 54, 262, 263, 264, 265, 266, 267, 268, 269, 270, 271, 272, 273, 274, 86, 275, 276, 277, 278, 90, 279, 280, 281, 282, 283, 64, 284, 285, 286, 287, 288, 289, 290, 291, 292, 293, 294, 295, 296, 297, 298, 299, 300, 301, 302, 303, 304, 305, 306, 307, 308, 309, 310, 311, 312, 313, 314, 315, 316, 317, 318, 319, 320, 321, 322, 323, 324, 325, 326, 66, 67, 327, 328, 329, 330, 331, 332, 333, 334, 335, 336, 337, 338, 339, 340, 91, 341, 342, 343, 344, 345, 346, 347, 348, 349, 350, 351, 495, 496, 566, 567, 568, 569, 570, 571, 572, 602, 603, 604, 605, 606, 607, 608, 609, 610, 611, 612, 613, 614, 615, 616, 617, 618, 619, 620, 621, 622, 623, 596, 597, 598, 599, 600, 601, 624, 625, 626, 627, 628, 629, 630, 631, 632, 633] rfl (by decide +kernel)
set_option maxRecDepth 20000 in
theorem gL_law_X5_shared : GoodIn wsL_law (wsV RL 65 RX5 yX5_shared wsX5_shared) := goodIn_app (goodIn_r _ [491, 492, 493, 2] rfl (by decide +kernel)) ggL_law_X5_shared
set_option maxRecDepth 20000 in
theorem ggL_law_X6_shared : GoodIn wsL_law wsX6_shared := goodIn_r _ [500, 133, 356, 357, 358, 5, 359, 181, 113, 360, 361, 362, 363, 105, 99, 156, 101, 107, 102, 103, 104, 108, 100, 137, 138, 139, 198, 199, 200, 201, 408, 409, 410, 411, 110, 109, 384, 385, 386, 387, 364, 365, 366, 367, 368, 369, 370, 371, 106, 372, 373, 374, 375, 376, 377, 378, 379, 380, 381, 382, 383, 388, 389, 390, 391, 573, 574, 575, 576, 577, 578, 579, 580, 581, 582, 583, 584, 585, 586, 587, 588, 589, 590, 591, 592, 593, 594, 595] rfl (by decide +kernel)
set_option maxRecDepth 20000 in
theorem gL_law_X6_shared : GoodIn wsL_law (wsV RL 68 RX6 yX6_shared wsX6_shared) := goodIn_app (goodIn_r _ [497, 498, 499, 5] rfl (by decide +kernel)) ggL_law_X6_shared
set_option maxRecDepth 20000 in
theorem ggL_law_X5_setting : GoodIn wsL_law wsX5_setting := goodIn_r _ [504, 29, 30, 92, 93, 2, 94, 566, 567, 568, 569, 570, 571, 572] rfl (by decide +kernel)
set_option maxRecDepth 20000 in
theorem gL_law_X5_setting : GoodIn wsL_law (wsV RL 69 RX5 yX5_setting wsX5_setting) := goodIn_app (goodIn_r _ [501, 502, 503, 2] rfl (by decide +kernel)) ggL_law_X5_setting
set_option maxRecDepth 20000 in
theorem ggL_law_X6_setting : GoodIn wsL_law wsX6_setting := goodIn_r _ [508, 133, 111, 112, 137, 138, 5, 139, 573, 574, 575, 576, 577, 578, 579, 580, 581, 582, 583, 584, 585, 586, 587, 588, 589, 590, 591, 592, 593, 594, 595] rfl (by decide +kernel)
set_option maxRecDepth 20000 in
theorem gL_law_X6_setting : GoodIn wsL_law (wsV RL 72 RX6 yX6_setting wsX6_setting) := goodIn_app (goodIn_r _ [505, 506, 507, 5] rfl (by decide +kernel)) ggL_law_X6_setting
set_option maxRecDepth 20000 in
theorem ggL_law_X5_hides : GoodIn wsL_law wsX5_hides := goodIn_r _ [512, 31, 566, 567, 568, 569, 570, 571, 572] rfl (by decide +kernel)
set_option maxRecDepth 20000 in
theorem gL_law_X5_hides : GoodIn wsL_law (wsV RL 73 RX5 yX5_hides wsX5_hides) := goodIn_app (goodIn_r _ [509, 510, 511, 2] rfl (by decide +kernel)) ggL_law_X5_hides
set_option maxRecDepth 20000 in
theorem ggL_law_X6_hides : GoodIn wsL_law wsX6_hides := goodIn_r _ [516, 133, 463, 573, 574, 575, 576, 577, 578, 579, 580, 581, 582, 583, 584, 585, 586, 587, 588, 589, 590, 591, 592, 593, 594, 595] rfl (by decide +kernel)
set_option maxRecDepth 20000 in
theorem gL_law_X6_hides : GoodIn wsL_law (wsV RL 77 RX6 yX6_hides wsX6_hides) := goodIn_app (goodIn_r _ [513, 514, 515, 5] rfl (by decide +kernel)) ggL_law_X6_hides
set_option maxRecDepth 20000 in
theorem ggL_law_X5_gap : GoodIn wsL_law wsX5_gap := goodIn_r _ [520, 28, 24, 20, 125, 126, 2, 127, 92, 93, 94, 430, 431, 432, 433, 31, 434, 435, 436, 23, 437, 58, 52, 212, 213, 214, 27, 215, 62, 216, 63, 217, 218, 219, 71, 220, 221, 222, 223, 68, 69, 70, 72, 73, 74, 224, 225, 226, 227, 228, 229, 230, 19, 231, 44, 40, 41, 42, 43, 39, 232, 233, 234, 235, 236, 237, 78, 65, 238, 82, 239, 240, 241, 242, 243, 244, 245, 246, 247, 248, 77, 249, 250, 251, 252, 253, 254, 255, 81, 256, 257, 258, 259, 260, 261, 54, 262, 263, 264, 265, 266, 267, 268, 269, 270, 271, 272, 273, 274, 86, 275, 276, 277, 278, 90, 279, 280, 281, 282, 283, 64, 284, 285, 286, 287, 288, 289, 290, 291, 292, 293, 294, 295, 296, 297, 298, 299, 300, 301, 302, 303, 304, 305, 306, 307, 308, 309, 310, 311, 312, 313, 314, 315, 316, 317, 318, 319, 320, 321, 322, 323, 324, 325, 326, 66, 67, 327, 328, 329, 330, 331, 332, 333, 334, 335, 336, 337, 338, 339, 340, 91, 341, 342, 343, 344, 345, 346, 347, 348, 349, 350, 351, 438, 439, 440, 441, 442, 443, 444, 445, 30, 446, 447, 29, 448, 449, 566, 567, 568, 569, 570, 571, 572, 602, 603, 604, 605, 606, 607, 608, 609, 610, 611, 612, 613, 614, 615, 616, 617, 618, 619, 620, 621, 622, 623, 596, 597, 598, 599, 600, 601, 624, 625, 626, 627, 628, 629, 630, 631, 632, 633] rfl (by decide +kernel)
set_option maxRecDepth 20000 in
theorem gL_law_X5_gap : GoodIn wsL_law (wsV RL 78 RX5 yX5_gap wsX5_gap) := goodIn_app (goodIn_r _ [517, 518, 519, 2] rfl (by decide +kernel)) ggL_law_X5_gap
set_option maxRecDepth 20000 in
theorem ggL_law_X6_gap : GoodIn wsL_law wsX6_gap := goodIn_r _ [524, 133, 134, 135, 5, 136, 137, 138, 139, 356, 357, 358, 359, 181, 113, 360, 361, 362, 363, 105, 99, 156, 101, 107, 102, 103, 104, 108, 100, 459, 460, 461, 462, 463, 464, 465, 466, 467, 112, 111, 468, 469, 470, 471, 472, 473, 474, 475, 110, 106, 384, 385, 386, 387, 364, 365, 366, 367, 368, 369, 370, 371, 372, 373, 374, 375, 376, 377, 378, 379, 380, 381, 382, 383, 388, 389, 390, 391, 476, 477, 478, 479, 573, 574, 575, 576, 577, 578, 579, 580, 581, 582, 583, 584, 585, 586, 587, 588, 589, 590, 591, 592, 593, 594, 595] rfl (by decide +kernel)
set_option maxRecDepth 20000 in
theorem gL_law_X6_gap : GoodIn wsL_law (wsV RL 81 RX6 yX6_gap wsX6_gap) := goodIn_app (goodIn_r _ [521, 522, 523, 5] rfl (by decide +kernel)) ggL_law_X6_gap
set_option maxRecDepth 20000 in
theorem ggL_law_X5_place : GoodIn wsL_law wsX5_place := goodIn_r _ [528, 424, 529, 28, 24, 20, 33, 125, 126, 2, 127, 92, 93, 94, 430, 431, 432, 433, 31, 434, 435, 436, 23, 437, 58, 52, 212, 213, 214, 27, 215, 62, 216, 63, 217, 218, 219, 71, 220, 221, 222, 223, 68, 69, 70, 72, 73, 74, 224, 225, 226, 227, 228, 229, 230, 19, 231, 44, 40, 41, 42, 43, 39, 232, 233, 234, 235, 236, 237, 78, 65, 238, 82, 239, 240, 241, 242, 243, 244, 245, 246, 247, 248, 77, 249, 250, 251, 252, 253, 254, 255, 81, 256, 257, 258, 259, 260, 261, 54, 262, 263, 264, 265, 266, 267, 268, 269, 270, 271, 272, 273, 274, 86, 275, 276, 277, 278, 90, 279, 280, 281, 282, 283, 64, 284, 285, 286, 287, 288, 289, 290, 291, 292, 293, 294, 295, 296, 297, 298, 299, 300, 301, 302, 303, 304, 305, 306, 307, 308, 309, 310, 311, 312, 313, 314, 315, 316, 317, 318, 319, 320, 321, 322, 323, 324, 325, 326, 66, 67, 327, 328, 329, 330, 331, 332, 333, 334, 335, 336, 337, 338, 339, 340, 91, 341, 342, 343, 344, 345, 346, 347, 348, 349, 350, 351, 426, 427, 428, 429, 438, 439, 440, 441, 442, 443, 444, 445, 30, 446, 447, 29, 448, 449, 566, 567, 568, 569, 570, 571, 572, 602, 603, 604, 605, 606, 607, 608, 609, 610, 611, 612, 613, 614, 615, 616, 617, 618, 619, 620, 621, 622, 623, 596, 597, 598, 599, 600, 601, 624, 625, 626, 627, 628, 629, 630, 631, 632, 633] rfl (by decide +kernel)
set_option maxRecDepth 20000 in
theorem gL_law_X5_place : GoodIn wsL_law (wsV RL 82 RX5 yX5_place wsX5_place) := goodIn_app (goodIn_r _ [525, 526, 527, 2] rfl (by decide +kernel)) ggL_law_X5_place
set_option maxRecDepth 20000 in
theorem ggL_law_X6_place : GoodIn wsL_law wsX6_place := goodIn_r _ [533, 133, 454, 534, 134, 135, 5, 136, 137, 138, 139, 356, 357, 358, 359, 181, 113, 360, 361, 362, 363, 105, 99, 156, 101, 107, 102, 103, 104, 108, 100, 459, 460, 461, 462, 463, 455, 456, 457, 458, 118, 464, 465, 466, 467, 112, 111, 468, 469, 470, 471, 472, 473, 474, 475, 110, 106, 384, 385, 386, 387, 364, 365, 366, 367, 368, 369, 370, 371, 372, 373, 374, 375, 376, 377, 378, 379, 380, 381, 382, 383, 388, 389, 390, 391, 476, 477, 478, 479, 573, 574, 575, 576, 577, 578, 579, 580, 581, 582, 583, 584, 585, 586, 587, 588, 589, 590, 591, 592, 593, 594, 595] rfl (by decide +kernel)
set_option maxRecDepth 20000 in
theorem gL_law_X6_place : GoodIn wsL_law (wsV RL 85 RX6 yX6_place wsX6_place) := goodIn_app (goodIn_r _ [530, 531, 532, 5] rfl (by decide +kernel)) ggL_law_X6_place
set_option maxRecDepth 20000 in
theorem ggL_law_L_crowded : GoodIn wsL_law wsL_crowded := goodIn_ca (goodIn_r _ [537, 538, 539, 540, 541, 2, 542, 543, 544, 28, 24, 20, 484, 545, 125, 126, 127, 92, 93, 94, 212, 213, 214, 27, 215, 62, 216, 63, 217, 218, 219, 71, 220, 221, 222, 223, 68, 69, 70, 72, 73, 74, 224, 225, 226, 227, 228, 229, 230, 19, 231, 44, 40, 41, 42, 43, 39, 232, 233, 234, 235, 236, 237, 78, 65, 238, 82, 239, 240, 241, 242, 243, 244, 245, 246, 247, 248, 77, 249, 250, 251, 252, 253, 254, 255, 81, 256, 257, 258, 259, 260, 23, 261, 52, 54, 262, 263, 264, 265, 266, 267, 268, 269, 270, 271, 272, 273, 274, 86, 275, 276, 277, 278, 90, 279, 280, 281, 282, 283, 64, 284, 285, 286, 287, 288, 289, 290, 291, 292, 293, 294, 295, 296, 297, 298, 299, 300, 301, 302, 303, 304, 305, 306, 307, 308, 309, 310, 311, 312, 313, 314, 315, 316, 317, 318, 319, 320, 321, 322, 323, 324, 325, 326, 66, 67, 327, 328, 329, 330, 331, 332, 333, 334, 335, 336, 337, 338, 339, 340, 91, 341, 342, 343, 344, 345, 346, 347, 348, 349, 350, 351, 449, 566, 567, 568, 569, 570, 571, 572, 609, 610, 611, 612, 613, 614, 615, 616, 617, 618, 619, 620, 621, 622, 623, 602, 603, 604, 605, 606, 607, 608, 596, 597, 598, 599, 600, 601, 624, 625, 626, 627, 628, 629, 630, 631, 632, 633] rfl (by decide +kernel)) (goodIn_sub (fun _ h => List.mem_append_right _ h) (by decide +kernel))
set_option maxRecDepth 20000 in
theorem gL_law_L_crowded : GoodIn wsL_law (va_wsS RL 86 yL_crowded wsL_crowded) := goodIn_app (goodIn_r _ [535, 536, 9] rfl (by decide +kernel)) ggL_law_L_crowded
set_option maxRecDepth 20000 in
theorem ggL_law_X6_crowded : GoodIn wsL_law wsX6_crowded := goodIn_r _ [549, 133, 114, 134, 135, 5, 136, 137, 138, 139, 356, 357, 358, 359, 181, 113, 360, 361, 362, 363, 105, 99, 156, 101, 107, 102, 103, 104, 108, 100, 376, 377, 378, 379, 380, 381, 382, 383, 106, 384, 385, 386, 387, 400, 401, 402, 403, 115, 392, 393, 394, 395, 368, 369, 370, 371, 372, 373, 374, 375, 388, 389, 390, 391, 364, 365, 366, 367, 396, 397, 398, 399, 404, 405, 406, 407, 408, 409, 410, 411, 110, 109, 573, 574, 575, 576, 577, 578, 579, 580, 581, 582, 583, 584, 585, 586, 587, 588, 589, 590, 591, 592, 593, 594, 595] rfl (by decide +kernel)
set_option maxRecDepth 20000 in
theorem gL_law_X6_crowded : GoodIn wsL_law (wsV RL 89 RX6 yX6_crowded wsX6_crowded) := goodIn_app (goodIn_r _ [546, 547, 548, 5] rfl (by decide +kernel)) ggL_law_X6_crowded
set_option maxRecDepth 20000 in
theorem ggL_law_X6_thrown : GoodIn wsL_law wsX6_thrown := goodIn_r _ [553, 133, 573, 574, 575, 576, 577, 578, 579, 580, 581, 582, 583, 584, 585, 586, 587, 588, 589, 590, 591, 592, 593, 594, 595] rfl (by decide +kernel)
set_option maxRecDepth 20000 in
theorem gL_law_X6_thrown : GoodIn wsL_law (wsV RL 90 RX6 yX6_thrown wsX6_thrown) := goodIn_app (goodIn_r _ [550, 551, 552, 5] rfl (by decide +kernel)) ggL_law_X6_thrown
set_option maxRecDepth 20000 in
theorem ggL_law_X5_about : GoodIn wsL_law wsX5_about := goodIn_r _ [557, 24, 169, 20, 144, 558, 559, 560, 2, 561, 430, 431, 432, 433, 31, 434, 435, 436, 23, 437, 58, 52, 566, 567, 568, 569, 570, 571, 572, 602, 603, 604, 605, 606, 607, 608, 596, 597, 598, 599, 600, 601] rfl (by decide +kernel)
set_option maxRecDepth 20000 in
theorem gL_law_X5_about : GoodIn wsL_law (wsV RL 93 RX5 yX5_about wsX5_about) := goodIn_app (goodIn_r _ [554, 555, 556, 2] rfl (by decide +kernel)) ggL_law_X5_about
set_option maxRecDepth 20000 in
theorem ggL_law_X6_about : GoodIn wsL_law wsX6_about := goodIn_r _ [565, 133, 181, 156, 459, 460, 461, 5, 462, 463, 105, 573, 574, 575, 576, 577, 578, 579, 580, 581, 582, 583, 584, 585, 586, 587, 588, 589, 590, 591, 592, 593, 594, 595] rfl (by decide +kernel)
set_option maxRecDepth 20000 in
theorem gL_law_X6_about : GoodIn wsL_law (wsV RL 96 RX6 yX6_about wsX6_about) := goodIn_app (goodIn_r _ [562, 563, 564, 5] rfl (by decide +kernel)) ggL_law_X6_about
