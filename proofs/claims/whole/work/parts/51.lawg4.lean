set_option maxRecDepth 20000 in
theorem ggL_law_X8_put : GoodIn wsL_law wsX8_put := goodIn_r _ [548, 549, 526, 550, 529, 530, 531, 2, 532, 22, 551, 552, 553, 554, 27, 20, 555, 556, 557, 453, 59, 454, 62, 302, 303, 304, 305, 26, 28, 306, 307, 308, 309, 671, 672, 673, 666, 667, 668, 627, 628, 629, 630, 631, 632, 633, 634, 635, 663, 664, 665] (by decide +kernel) (by decide +kernel)
set_option maxRecDepth 20000 in
theorem gL_law_X8_put : GoodIn wsL_law (wsV RL 94 RX8 yX8_put wsX8_put) := goodIn_app (goodIn_of _ (by decide +kernel)) ggL_law_X8_put
set_option maxRecDepth 20000 in
theorem ggL_law_X9_put : GoodIn wsL_law wsX9_put := goodIn_r _ [561, 164, 338, 90, 88, 91, 542, 543, 5, 544, 337, 170, 171, 172, 562, 563, 564, 565, 521, 566, 567, 568, 569, 89, 362, 363, 364, 365, 94, 636, 637, 638, 639, 640, 641, 642, 643, 644, 645, 646, 647, 648, 649, 650, 651, 652, 653, 654, 655] (by decide +kernel) (by decide +kernel)
set_option maxRecDepth 20000 in
theorem gL_law_X9_put : GoodIn wsL_law (wsV RL 97 RX9 yX9_put wsX9_put) := goodIn_app (goodIn_of _ (by decide +kernel)) ggL_law_X9_put
set_option maxRecDepth 20000 in
theorem ggL_law_X8_at : GoodIn wsL_law wsX8_at := goodIn_r _ [573, 550, 574, 529, 530, 531, 2, 532, 22, 555, 556, 557, 453, 59, 454, 62, 302, 303, 304, 305, 26, 28, 306, 307, 308, 309, 666, 667, 668, 671, 672, 673, 627, 628, 629, 630, 631, 632, 633, 634, 635, 663, 664, 665] (by decide +kernel) (by decide +kernel)
set_option maxRecDepth 20000 in
theorem gL_law_X8_at : GoodIn wsL_law (wsV RL 98 RX8 yX8_at wsX8_at) := goodIn_app (goodIn_of _ (by decide +kernel)) ggL_law_X8_at
set_option maxRecDepth 20000 in
theorem ggL_law_X9_at : GoodIn wsL_law wsX9_at := goodIn_r _ [578, 164, 338, 91, 542, 543, 5, 544, 337, 170, 171, 172, 566, 567, 568, 569, 89, 362, 363, 364, 365, 94, 636, 637, 638, 639, 640, 641, 642, 643, 644, 645, 646, 647, 648, 649, 650, 651, 652, 653, 654, 655] (by decide +kernel) (by decide +kernel)
set_option maxRecDepth 20000 in
theorem gL_law_X9_at : GoodIn wsL_law (wsV RL 101 RX9 yX9_at wsX9_at) := goodIn_app (goodIn_of _ (by decide +kernel)) ggL_law_X9_at
set_option maxRecDepth 20000 in
theorem ggL_law_X8_weight : GoodIn wsL_law wsX8_weight := goodIn_r _ [582, 550, 549, 583, 529, 530, 531, 2, 532, 22, 555, 556, 557, 453, 59, 454, 62, 302, 303, 304, 305, 26, 28, 306, 307, 308, 309, 666, 667, 668, 671, 672, 673, 627, 628, 629, 630, 631, 632, 633, 634, 635, 663, 664, 665] (by decide +kernel) (by decide +kernel)
set_option maxRecDepth 20000 in
theorem gL_law_X8_weight : GoodIn wsL_law (wsV RL 102 RX8 yX8_weight wsX8_weight) := goodIn_app (goodIn_of _ (by decide +kernel)) ggL_law_X8_weight
set_option maxRecDepth 20000 in
theorem ggL_law_X9_weight : GoodIn wsL_law wsX9_weight := goodIn_r _ [587, 164, 338, 91, 88, 86, 542, 543, 5, 544, 337, 170, 171, 172, 566, 567, 568, 569, 89, 362, 363, 364, 365, 94, 636, 637, 638, 639, 640, 641, 642, 643, 644, 645, 646, 647, 648, 649, 650, 651, 652, 653, 654, 655] (by decide +kernel) (by decide +kernel)
set_option maxRecDepth 20000 in
theorem gL_law_X9_weight : GoodIn wsL_law (wsV RL 105 RX9 yX9_weight wsX9_weight) := goodIn_app (goodIn_of _ (by decide +kernel)) ggL_law_X9_weight
set_option maxRecDepth 20000 in
theorem ggL_law_X8_brake : GoodIn wsL_law wsX8_brake := goodIn_r _ [591, 114, 592, 593, 594, 595, 596, 2, 597, 24, 115, 116, 117, 118, 119, 120, 121, 122, 123, 124, 125, 126, 127, 128, 129, 130, 131, 132, 133, 134, 135, 136, 137, 138, 139, 140, 141, 142, 143, 144, 145, 146, 147, 148, 149, 150, 151, 152, 153, 154, 155, 669, 670, 627, 628, 629, 630, 631, 632, 633, 634, 635] (by decide +kernel) (by decide +kernel)
set_option maxRecDepth 20000 in
theorem gL_law_X8_brake : GoodIn wsL_law (wsV RL 106 RX8 yX8_brake wsX8_brake) := goodIn_app (goodIn_of _ (by decide +kernel)) ggL_law_X8_brake
set_option maxRecDepth 20000 in
theorem ggL_law_X9_brake : GoodIn wsL_law wsX9_brake := goodIn_r _ [601, 164, 165, 602, 92, 93, 170, 171, 5, 172, 173, 174, 175, 176, 177, 178, 179, 286, 287, 288, 289, 290, 291, 275, 636, 637, 638, 639, 640, 641, 642, 643, 644, 645, 646, 647, 648, 649, 650, 651, 652, 653, 654, 655] (by decide +kernel) (by decide +kernel)
set_option maxRecDepth 20000 in
theorem gL_law_X9_brake : GoodIn wsL_law (wsV RL 109 RX9 yX9_brake wsX9_brake) := goodIn_app (goodIn_of _ (by decide +kernel)) ggL_law_X9_brake
set_option maxRecDepth 20000 in
theorem ggL_law_X8_slow : GoodIn wsL_law wsX8_slow := goodIn_r _ [606, 593, 592, 594, 595, 596, 2, 597, 24, 99, 100, 101, 102, 14, 302, 303, 304, 305, 26, 28, 329, 245, 246, 30, 247, 43, 44, 230, 189, 190, 191, 42, 311, 312, 313, 314, 202, 203, 204, 319, 320, 321, 114, 322, 323, 146, 324, 325, 198, 199, 118, 200, 148, 130, 201, 125, 126, 127, 128, 129, 149, 150, 151, 152, 153, 154, 155, 326, 137, 138, 139, 327, 141, 142, 143, 144, 145, 147, 328, 156, 157, 158, 159, 306, 307, 308, 309, 669, 670, 627, 628, 629, 630, 631, 632, 633, 634, 635, 656, 657, 658] (by decide +kernel) (by decide +kernel)
set_option maxRecDepth 20000 in
theorem gL_law_X8_slow : GoodIn wsL_law (wsV RL 110 RX8 yX8_slow wsX8_slow) := goodIn_app (goodIn_of _ (by decide +kernel)) ggL_law_X8_slow
