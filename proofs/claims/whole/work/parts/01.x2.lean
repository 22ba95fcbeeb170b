set_option maxRecDepth 20000 in
theorem in_wsL_law_r15 : ∀ w ∈ wsL_law_r15, w ∈ lw_tbl := fun w h => (goodIn_p wsL_law_r15 [620, 625, 629, 632, 638, 641] (by decide +kernel) (by decide +kernel) w h).1
set_option maxRecDepth 20000 in
theorem in_wsL_law_r16 : ∀ w ∈ wsL_law_r16, w ∈ lw_tbl := fun w h => (goodIn_p wsL_law_r16 [647, 346, 651, 350] (by decide +kernel) (by decide +kernel) w h).1
set_option maxRecDepth 20000 in
theorem in_wsL_law_r17 : ∀ w ∈ wsL_law_r17, w ∈ lw_tbl := fun w h => (goodIn_p wsL_law_r17 [354, 655, 658, 360, 665] (by decide +kernel) (by decide +kernel) w h).1
set_option maxRecDepth 20000 in
theorem in_wsL_law_r18 : ∀ w ∈ wsL_law_r18, w ∈ lw_tbl := fun w h => (goodIn_p wsL_law_r18 [669, 364, 673, 369, 373] (by decide +kernel) (by decide +kernel) w h).1
set_option maxRecDepth 20000 in
theorem in_wsL_law_r19 : ∀ w ∈ wsL_law_r19, w ∈ lw_tbl := fun w h => (goodIn_p wsL_law_r19 [376, 678, 681, 380, 386] (by decide +kernel) (by decide +kernel) w h).1
set_option maxRecDepth 20000 in
theorem in_wsL_law_r20 : ∀ w ∈ wsL_law_r20, w ∈ lw_tbl := fun w h => (goodIn_p wsL_law_r20 [688, 692, 695, 390, 699, 394] (by decide +kernel) (by decide +kernel) w h).1
set_option maxRecDepth 20000 in
theorem in_wsL_law_r21 : ∀ w ∈ wsL_law_r21, w ∈ lw_tbl := fun w h => (goodIn_p wsL_law_r21 [703, 398, 402, 707, 406, 711] (by decide +kernel) (by decide +kernel) w h).1
