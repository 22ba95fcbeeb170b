set_option maxRecDepth 20000 in
theorem ggL_law_X9_turn : GoodIn wsL_law wsX9_turn := goodIn_r _ [252, 164, 165, 79, 77, 166, 167, 5, 168, 169, 170, 171, 172, 253, 254, 255, 256, 257, 258, 259, 260, 261, 262, 263, 264, 265, 266, 267, 268, 269, 270, 271, 272, 273, 274, 275, 276, 277, 278, 279, 280, 281, 282, 283, 284, 285, 286, 287, 288, 289, 290, 291, 636, 637, 638, 639, 640, 641, 642, 643, 644, 645, 646, 647, 648, 649, 650, 651, 652, 653, 654, 655] (by decide +kernel) (by decide +kernel)
set_option maxRecDepth 20000 in
theorem gL_law_X9_turn : GoodIn wsL_law (wsV RL 34 RX9 yX9_turn wsX9_turn) := goodIn_app (goodIn_of _ (by decide +kernel)) ggL_law_X9_turn
set_option maxRecDepth 20000 in
theorem ggL_law_X8_reckon : GoodIn wsL_law wsX8_reckon := goodIn_r _ [295, 186, 296, 145, 146, 147, 99, 100, 101, 2, 102, 14, 297, 233, 234, 30, 235, 43, 44, 230, 189, 190, 191, 42, 298, 299, 300, 301, 302, 303, 304, 305, 26, 28, 106, 107, 108, 109, 306, 307, 308, 309, 310, 237, 238, 239, 240, 241, 242, 243, 244, 245, 246, 247, 311, 312, 313, 314, 202, 203, 204, 315, 316, 317, 318, 319, 320, 321, 114, 322, 323, 324, 325, 198, 199, 118, 200, 148, 130, 201, 125, 126, 127, 128, 129, 149, 150, 151, 152, 153, 154, 155, 326, 137, 138, 139, 327, 141, 142, 143, 144, 328, 329, 330, 331, 332, 156, 157, 158, 159, 656, 657, 658, 627, 628, 629, 630, 631, 632, 633, 634, 635] (by decide +kernel) (by decide +kernel)
set_option maxRecDepth 20000 in
theorem gL_law_X8_reckon : GoodIn wsL_law (wsV RL 35 RX8 yX8_reckon wsX8_reckon) := goodIn_app (goodIn_of _ (by decide +kernel)) ggL_law_X8_reckon
set_option maxRecDepth 20000 in
theorem ggL_law_X9_reckon : GoodIn wsL_law wsX9_reckon := goodIn_r _ [336, 164, 337, 338, 77, 79, 339, 166, 167, 5, 168, 169, 170, 171, 172, 253, 254, 255, 256, 257, 258, 259, 260, 261, 262, 263, 264, 265, 266, 267, 268, 269, 270, 271, 272, 273, 274, 275, 276, 277, 278, 279, 280, 281, 282, 283, 284, 285, 286, 287, 288, 289, 290, 291, 340, 341, 342, 343, 344, 345, 346, 347, 348, 349, 350, 351, 352, 353, 354, 355, 356, 357, 358, 359, 360, 361, 362, 363, 364, 365, 94, 636, 637, 638, 639, 640, 641, 642, 643, 644, 645, 646, 647, 648, 649, 650, 651, 652, 653, 654, 655] (by decide +kernel) (by decide +kernel)
set_option maxRecDepth 20000 in
theorem gL_law_X9_reckon : GoodIn wsL_law (wsV RL 39 RX9 yX9_reckon wsX9_reckon) := goodIn_app (goodIn_of _ (by decide +kernel)) ggL_law_X9_reckon
set_option maxRecDepth 20000 in
theorem ggL_law_X8_compare : GoodIn wsL_law wsX8_compare := goodIn_r _ [369, 186, 296, 145, 146, 147, 99, 100, 101, 2, 102, 14, 297, 233, 234, 30, 235, 43, 44, 230, 189, 190, 191, 42, 310, 237, 238, 239, 240, 241, 242, 243, 244, 245, 246, 247, 656, 657, 658, 627, 628, 629, 630, 631, 632, 633, 634, 635] (by decide +kernel) (by decide +kernel)
set_option maxRecDepth 20000 in
theorem gL_law_X8_compare : GoodIn wsL_law (wsV RL 40 RX8 yX8_compare wsX8_compare) := goodIn_app (goodIn_of _ (by decide +kernel)) ggL_law_X8_compare
set_option maxRecDepth 20000 in
theorem ggL_law_X9_compare : GoodIn wsL_law wsX9_compare := goodIn_r _ [373, 164, 77, 79, 166, 167, 5, 168, 169, 170, 171, 172, 253, 254, 255, 256, 257, 258, 259, 260, 261, 262, 263, 264, 265, 266, 267, 268, 269, 270, 271, 272, 273, 274, 275, 276, 277, 278, 279, 280, 281, 282, 283, 284, 285, 286, 287, 288, 289, 290, 291, 636, 637, 638, 639, 640, 641, 642, 643, 644, 645, 646, 647, 648, 649, 650, 651, 652, 653, 654, 655] (by decide +kernel) (by decide +kernel)
set_option maxRecDepth 20000 in
theorem gL_law_X9_compare : GoodIn wsL_law (wsV RL 43 RX9 yX9_compare wsX9_compare) := goodIn_app (goodIn_of _ (by decide +kernel)) ggL_law_X9_compare
set_option maxRecDepth 20000 in
theorem ggL_law_X8_drum : GoodIn wsL_law wsX8_drum := goodIn_r _ [377, 114, 378, 379, 380, 381, 382, 383, 384, 385, 386, 2, 387, 16, 115, 116, 117, 118, 119, 120, 121, 122, 123, 124, 125, 126, 127, 128, 129, 130, 131, 132, 133, 134, 135, 136, 137, 138, 139, 140, 141, 142, 143, 144, 145, 146, 147, 148, 149, 150, 151, 152, 153, 154, 155, 659, 660, 661, 662, 627, 628, 629, 630, 631, 632, 633, 634, 635] (by decide +kernel) (by decide +kernel)
set_option maxRecDepth 20000 in
theorem gL_law_X8_drum : GoodIn wsL_law (wsV RL 44 RX8 yX8_drum wsX8_drum) := goodIn_app (goodIn_of _ (by decide +kernel)) ggL_law_X8_drum
set_option maxRecDepth 20000 in
theorem ggL_law_X9_drum : GoodIn wsL_law wsX9_drum := goodIn_r _ [391, 164, 392, 393, 80, 81, 82, 83, 394, 395, 5, 396, 397, 170, 171, 172, 173, 174, 175, 176, 177, 178, 179, 286, 287, 288, 289, 290, 291, 275, 636, 637, 638, 639, 640, 641, 642, 643, 644, 645, 646, 647, 648, 649, 650, 651, 652, 653, 654, 655] (by decide +kernel) (by decide +kernel)
set_option maxRecDepth 20000 in
theorem gL_law_X9_drum : GoodIn wsL_law (wsV RL 48 RX9 yX9_drum wsX9_drum) := goodIn_app (goodIn_of _ (by decide +kernel)) ggL_law_X9_drum
set_option maxRecDepth 20000 in
theorem ggL_law_X8_wind : GoodIn wsL_law wsX8_wind := goodIn_r _ [401, 381, 383, 380, 382, 384, 385, 386, 2, 387, 16, 99, 100, 101, 102, 14, 329, 245, 246, 30, 247, 43, 44, 230, 189, 190, 191, 42, 314, 202, 203, 204, 302, 303, 304, 305, 26, 28, 319, 320, 321, 114, 322, 323, 146, 324, 325, 198, 199, 118, 200, 148, 130, 201, 125, 126, 127, 128, 129, 149, 150, 151, 152, 153, 154, 155, 326, 137, 138, 139, 327, 141, 142, 143, 144, 145, 147, 328, 306, 307, 308, 309, 659, 660, 661, 662, 627, 628, 629, 630, 631, 632, 633, 634, 635, 656, 657, 658] (by decide +kernel) (by decide +kernel)
set_option maxRecDepth 20000 in
theorem gL_law_X8_wind : GoodIn wsL_law (wsV RL 49 RX8 yX8_wind wsX8_wind) := goodIn_app (goodIn_of _ (by decide +kernel)) ggL_law_X8_wind
set_option maxRecDepth 20000 in
theorem ggL_law_X9_wind : GoodIn wsL_law wsX9_wind := goodIn_r _ [405, 164, 338, 81, 83, 80, 82, 394, 395, 5, 396, 397, 170, 171, 172, 166, 167, 168, 169, 406, 407, 408, 409, 77, 79, 253, 254, 255, 256, 257, 258, 259, 260, 261, 262, 263, 264, 265, 266, 267, 268, 269, 270, 271, 272, 273, 274, 275, 276, 277, 278, 279, 280, 281, 282, 283, 284, 285, 286, 287, 288, 289, 290, 291, 357, 358, 359, 360, 361, 362, 363, 364, 365, 94, 636, 637, 638, 639, 640, 641, 642, 643, 644, 645, 646, 647, 648, 649, 650, 651, 652, 653, 654, 655] (by decide +kernel) (by decide +kernel)
set_option maxRecDepth 20000 in
theorem gL_law_X9_wind : GoodIn wsL_law (wsV RL 52 RX9 yX9_wind wsX9_wind) := goodIn_app (goodIn_of _ (by decide +kernel)) ggL_law_X9_wind
