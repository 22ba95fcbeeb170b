set_option maxRecDepth 20000 in
theorem ggL_law_X9_rest : GoodIn wsL_law wsX9_rest := goodIn_r _ [481, 164, 338, 85, 339, 441, 442, 5, 443, 444, 170, 171, 172, 459, 460, 461, 462, 84, 463, 464, 465, 280, 281, 282, 283, 284, 285, 263, 344, 345, 346, 347, 348, 349, 350, 351, 352, 256, 257, 258, 259, 260, 261, 262, 264, 265, 266, 267, 286, 287, 288, 289, 290, 291, 275, 353, 354, 355, 356, 357, 358, 359, 360, 361, 268, 269, 270, 271, 272, 273, 274, 276, 277, 278, 279, 362, 363, 364, 365, 94, 636, 637, 638, 639, 640, 641, 642, 643, 644, 645, 646, 647, 648, 649, 650, 651, 652, 653, 654, 655] (by decide +kernel) (by decide +kernel)
set_option maxRecDepth 20000 in
theorem gL_law_X9_rest : GoodIn wsL_law (wsV RL 74 RX9 yX9_rest wsX9_rest) := goodIn_app (goodIn_of _ (by decide +kernel)) ggL_law_X9_rest
set_option maxRecDepth 20000 in
theorem ggL_law_X8_copy : GoodIn wsL_law wsX8_copy := goodIn_r _ [485, 449, 427, 428, 429, 2, 430, 18, 486, 487, 488, 489, 425, 426, 322, 323, 146, 324, 424, 302, 303, 304, 305, 26, 28, 306, 307, 308, 309, 663, 664, 665, 627, 628, 629, 630, 631, 632, 633, 634, 635, 666, 667, 668] (by decide +kernel) (by decide +kernel)
set_option maxRecDepth 20000 in
theorem gL_law_X8_copy : GoodIn wsL_law (wsV RL 75 RX8 yX8_copy wsX8_copy) := goodIn_app (goodIn_of _ (by decide +kernel)) ggL_law_X8_copy
set_option maxRecDepth 20000 in
theorem ggL_law_X9_copy : GoodIn wsL_law wsX9_copy := goodIn_r _ [493, 164, 337, 444, 165, 84, 338, 85, 94, 170, 171, 5, 172, 362, 363, 364, 365, 463, 464, 465, 253, 254, 255, 256, 257, 258, 259, 260, 261, 262, 263, 264, 265, 266, 267, 268, 269, 270, 271, 272, 273, 274, 275, 276, 277, 278, 279, 280, 281, 282, 283, 284, 285, 286, 287, 288, 289, 290, 291, 636, 637, 638, 639, 640, 641, 642, 643, 644, 645, 646, 647, 648, 649, 650, 651, 652, 653, 654, 655] (by decide +kernel) (by decide +kernel)
set_option maxRecDepth 20000 in
theorem gL_law_X9_copy : GoodIn wsL_law (wsV RL 79 RX9 yX9_copy wsX9_copy) := goodIn_app (goodIn_of _ (by decide +kernel)) ggL_law_X9_copy
set_option maxRecDepth 20000 in
theorem ggL_law_X8_whole : GoodIn wsL_law wsX8_whole := goodIn_r _ [497, 424, 427, 428, 429, 2, 430, 18, 450, 451, 452, 453, 59, 454, 62, 302, 303, 304, 305, 26, 28, 306, 307, 308, 309, 663, 664, 665, 627, 628, 629, 630, 631, 632, 633, 634, 635, 666, 667, 668] (by decide +kernel) (by decide +kernel)
set_option maxRecDepth 20000 in
theorem gL_law_X8_whole : GoodIn wsL_law (wsV RL 80 RX8 yX8_whole wsX8_whole) := goodIn_app (goodIn_of _ (by decide +kernel)) ggL_law_X8_whole
set_option maxRecDepth 20000 in
theorem ggL_law_X9_whole : GoodIn wsL_law wsX9_whole := goodIn_r _ [501, 164, 338, 85, 441, 442, 5, 443, 444, 170, 171, 172, 459, 460, 461, 462, 84, 362, 363, 364, 365, 94, 463, 464, 465, 253, 254, 255, 256, 257, 258, 259, 260, 261, 262, 263, 264, 265, 266, 267, 268, 269, 270, 271, 272, 273, 274, 275, 276, 277, 278, 279, 280, 281, 282, 283, 284, 285, 286, 287, 288, 289, 290, 291, 636, 637, 638, 639, 640, 641, 642, 643, 644, 645, 646, 647, 648, 649, 650, 651, 652, 653, 654, 655] (by decide +kernel) (by decide +kernel)
set_option maxRecDepth 20000 in
theorem gL_law_X9_whole : GoodIn wsL_law (wsV RL 83 RX9 yX9_whole wsX9_whole) := goodIn_app (goodIn_of _ (by decide +kernel)) ggL_law_X9_whole
set_option maxRecDepth 20000 in
theorem ggL_law_X8_spool : GoodIn wsL_law wsX8_spool := goodIn_r _ [505, 506, 27, 20, 19, 507, 508, 509, 510, 511, 512, 11, 12, 513, 514, 515, 627, 628, 629, 630, 631, 632, 633, 634, 635, 671, 672, 673] (by decide +kernel) (by decide +kernel)
set_option maxRecDepth 20000 in
theorem gL_law_X8_spool : GoodIn wsL_law (wsV RL 84 RX8 yX8_spool wsX8_spool) := goodIn_app (goodIn_of _ (by decide +kernel)) ggL_law_X8_spool
set_option maxRecDepth 20000 in
theorem ggL_law_X9_spool : GoodIn wsL_law wsX9_spool := goodIn_r _ [519, 164, 520, 521, 86, 88, 170, 171, 5, 172, 636, 637, 638, 639, 640, 641, 642, 643, 644, 645, 646, 647, 648, 649, 650, 651, 652, 653, 654, 655] (by decide +kernel) (by decide +kernel)
set_option maxRecDepth 20000 in
theorem gL_law_X9_spool : GoodIn wsL_law (wsV RL 88 RX9 yX9_spool wsX9_spool) := goodIn_app (goodIn_of _ (by decide +kernel)) ggL_law_X9_spool
set_option maxRecDepth 20000 in
theorem ggL_law_X8_rack : GoodIn wsL_law wsX8_rack := goodIn_r _ [525, 526, 527, 528, 529, 530, 531, 2, 532, 22, 533, 534, 535, 36, 536, 66, 666, 667, 668, 663, 664, 665, 627, 628, 629, 630, 631, 632, 633, 634, 635] (by decide +kernel) (by decide +kernel)
set_option maxRecDepth 20000 in
theorem gL_law_X8_rack : GoodIn wsL_law (wsV RL 89 RX8 yX8_rack wsX8_rack) := goodIn_app (goodIn_of _ (by decide +kernel)) ggL_law_X8_rack
set_option maxRecDepth 20000 in
theorem ggL_law_X9_rack : GoodIn wsL_law wsX9_rack := goodIn_r _ [540, 164, 439, 541, 89, 90, 91, 542, 543, 5, 544, 337, 170, 171, 172, 636, 637, 638, 639, 640, 641, 642, 643, 644, 645, 646, 647, 648, 649, 650, 651, 652, 653, 654, 655] (by decide +kernel) (by decide +kernel)
set_option maxRecDepth 20000 in
theorem gL_law_X9_rack : GoodIn wsL_law (wsV RL 93 RX9 yX9_rack wsX9_rack) := goodIn_app (goodIn_of _ (by decide +kernel)) ggL_law_X9_rack
