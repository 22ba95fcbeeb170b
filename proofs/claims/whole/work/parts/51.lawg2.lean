set_option maxRecDepth 20000 in
theorem ggL_law_X8_told : GoodIn wsL_law wsX8_told := goodIn_r _ [413, 184, 114, 380, 381, 382, 383, 414, 384, 385, 386, 2, 387, 16, 192, 193, 194, 118, 195, 196, 124, 197, 198, 199, 200, 148, 130, 201, 202, 203, 204, 125, 126, 127, 128, 129, 149, 150, 151, 152, 153, 154, 146, 155, 659, 660, 661, 662, 627, 628, 629, 630, 631, 632, 633, 634, 635] (by decide +kernel) (by decide +kernel)
set_option maxRecDepth 20000 in
theorem gL_law_X8_told : GoodIn wsL_law (wsV RL 53 RX8 yX8_told wsX8_told) := goodIn_app (goodIn_of _ (by decide +kernel)) ggL_law_X8_told
set_option maxRecDepth 20000 in
theorem ggL_law_X9_told : GoodIn wsL_law wsX9_told := goodIn_r _ [418, 164, 209, 80, 81, 82, 83, 419, 394, 395, 5, 396, 397, 170, 171, 172, 268, 269, 270, 271, 272, 273, 274, 275, 276, 277, 278, 279, 636, 637, 638, 639, 640, 641, 642, 643, 644, 645, 646, 647, 648, 649, 650, 651, 652, 653, 654, 655] (by decide +kernel) (by decide +kernel)
set_option maxRecDepth 20000 in
theorem gL_law_X9_told : GoodIn wsL_law (wsV RL 57 RX9 yX9_told wsX9_told) := goodIn_app (goodIn_of _ (by decide +kernel)) ggL_law_X9_told
set_option maxRecDepth 20000 in
theorem ggL_law_X8_log : GoodIn wsL_law wsX8_log := goodIn_r _ [423, 424, 425, 426, 427, 428, 429, 2, 430, 18, 431, 432, 433, 434, 663, 664, 665, 666, 667, 668, 627, 628, 629, 630, 631, 632, 633, 634, 635] (by decide +kernel) (by decide +kernel)
set_option maxRecDepth 20000 in
theorem gL_law_X8_log : GoodIn wsL_law (wsV RL 58 RX8 yX8_log wsX8_log) := goodIn_app (goodIn_of _ (by decide +kernel)) ggL_law_X8_log
set_option maxRecDepth 20000 in
theorem ggL_law_X9_log : GoodIn wsL_law wsX9_log := goodIn_r _ [438, 164, 439, 440, 84, 85, 441, 442, 5, 443, 444, 170, 171, 172, 636, 637, 638, 639, 640, 641, 642, 643, 644, 645, 646, 647, 648, 649, 650, 651, 652, 653, 654, 655] (by decide +kernel) (by decide +kernel)
set_option maxRecDepth 20000 in
theorem gL_law_X9_log : GoodIn wsL_law (wsV RL 61 RX9 yX9_log wsX9_log) := goodIn_app (goodIn_of _ (by decide +kernel)) ggL_law_X9_log
set_option maxRecDepth 20000 in
theorem ggL_law_X8_write : GoodIn wsL_law wsX8_write := goodIn_r _ [448, 424, 449, 427, 428, 429, 2, 430, 18, 99, 100, 101, 102, 14, 450, 451, 452, 453, 59, 454, 62, 302, 303, 304, 305, 26, 28, 310, 237, 238, 30, 239, 240, 241, 242, 243, 43, 44, 230, 189, 190, 191, 42, 244, 245, 246, 247, 306, 307, 308, 309, 663, 664, 665, 627, 628, 629, 630, 631, 632, 633, 634, 635, 666, 667, 668, 656, 657, 658] (by decide +kernel) (by decide +kernel)
set_option maxRecDepth 20000 in
theorem gL_law_X8_write : GoodIn wsL_law (wsV RL 62 RX8 yX8_write wsX8_write) := goodIn_app (goodIn_of _ (by decide +kernel)) ggL_law_X8_write
set_option maxRecDepth 20000 in
theorem ggL_law_X9_write : GoodIn wsL_law wsX9_write := goodIn_r _ [458, 164, 338, 85, 77, 79, 441, 442, 5, 443, 444, 170, 171, 172, 166, 167, 168, 169, 459, 460, 461, 462, 84, 463, 464, 465, 253, 254, 255, 256, 257, 258, 259, 260, 261, 262, 263, 264, 265, 266, 267, 268, 269, 270, 271, 272, 273, 274, 275, 276, 277, 278, 279, 280, 281, 282, 283, 284, 285, 286, 287, 288, 289, 290, 291, 362, 363, 364, 365, 94, 636, 637, 638, 639, 640, 641, 642, 643, 644, 645, 646, 647, 648, 649, 650, 651, 652, 653, 654, 655] (by decide +kernel) (by decide +kernel)
set_option maxRecDepth 20000 in
theorem gL_law_X9_write : GoodIn wsL_law (wsV RL 66 RX9 yX9_write wsX9_write) := goodIn_app (goodIn_of _ (by decide +kernel)) ggL_law_X9_write
set_option maxRecDepth 20000 in
theorem ggL_law_X8_read : GoodIn wsL_law wsX8_read := goodIn_r _ [469, 449, 424, 427, 428, 429, 2, 430, 18, 99, 100, 101, 102, 14, 450, 451, 452, 453, 59, 454, 62, 302, 303, 304, 305, 26, 28, 156, 157, 158, 30, 159, 42, 44, 306, 307, 308, 309, 663, 664, 665, 627, 628, 629, 630, 631, 632, 633, 634, 635, 666, 667, 668, 656, 657, 658] (by decide +kernel) (by decide +kernel)
set_option maxRecDepth 20000 in
theorem gL_law_X8_read : GoodIn wsL_law (wsV RL 67 RX8 yX8_read wsX8_read) := goodIn_app (goodIn_of _ (by decide +kernel)) ggL_law_X8_read
set_option maxRecDepth 20000 in
theorem ggL_law_X9_read : GoodIn wsL_law wsX9_read := goodIn_r _ [473, 164, 338, 77, 79, 85, 441, 442, 5, 443, 444, 170, 171, 172, 166, 167, 168, 169, 459, 460, 461, 462, 84, 463, 464, 465, 362, 363, 364, 365, 94, 636, 637, 638, 639, 640, 641, 642, 643, 644, 645, 646, 647, 648, 649, 650, 651, 652, 653, 654, 655] (by decide +kernel) (by decide +kernel)
set_option maxRecDepth 20000 in
theorem gL_law_X9_read : GoodIn wsL_law (wsV RL 70 RX9 yX9_read wsX9_read) := goodIn_app (goodIn_of _ (by decide +kernel)) ggL_law_X9_read
set_option maxRecDepth 20000 in
theorem ggL_law_X8_rest : GoodIn wsL_law wsX8_rest := goodIn_r _ [477, 296, 145, 146, 147, 424, 427, 428, 429, 2, 430, 18, 450, 451, 452, 453, 59, 454, 62, 302, 303, 304, 305, 26, 28, 311, 312, 313, 314, 202, 203, 204, 319, 320, 321, 114, 322, 323, 324, 325, 198, 199, 118, 200, 148, 130, 201, 125, 126, 127, 128, 129, 149, 150, 151, 152, 153, 154, 155, 326, 137, 138, 139, 327, 141, 142, 143, 144, 328, 306, 307, 308, 309, 663, 664, 665, 627, 628, 629, 630, 631, 632, 633, 634, 635, 666, 667, 668] (by decide +kernel) (by decide +kernel)
set_option maxRecDepth 20000 in
theorem gL_law_X8_rest : GoodIn wsL_law (wsV RL 71 RX8 yX8_rest wsX8_rest) := goodIn_app (goodIn_of _ (by decide +kernel)) ggL_law_X8_rest
