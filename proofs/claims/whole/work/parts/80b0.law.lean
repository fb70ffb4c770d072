set_option maxRecDepth 100000 in
theorem inLr1 : ∀ w ∈ wsL_law_r1, w ∈ lw_tbl := fun w h => (goodIn_p wsL_law_r1 [50, 53] (by decide +kernel) (by decide +kernel) w h).1
set_option maxRecDepth 100000 in
theorem inLr2 : ∀ w ∈ wsL_law_r2, w ∈ lw_tbl := fun w h => (goodIn_p wsL_law_r2 [58] (by decide +kernel) (by decide +kernel) w h).1
set_option maxRecDepth 100000 in
theorem inLr3 : ∀ w ∈ wsL_law_r3, w ∈ lw_tbl := fun w h => (goodIn_p wsL_law_r3 [81, 87, 127] (by decide +kernel) (by decide +kernel) w h).1
set_option maxRecDepth 100000 in
theorem inLr4 : ∀ w ∈ wsL_law_r4, w ∈ lw_tbl := fun w h => (goodIn_p wsL_law_r4 [134, 219, 225] (by decide +kernel) (by decide +kernel) w h).1
set_option maxRecDepth 100000 in
theorem inLr5 : ∀ w ∈ wsL_law_r5, w ∈ lw_tbl := fun w h => (goodIn_p wsL_law_r5 [269, 295, 679] (by decide +kernel) (by decide +kernel) w h).1
set_option maxRecDepth 100000 in
theorem inLr6 : ∀ w ∈ wsL_law_r6, w ∈ lw_tbl := fun w h => (goodIn_p wsL_law_r6 [] (by decide +kernel) (by decide +kernel) w h).1
set_option maxRecDepth 100000 in
theorem inLr7 : ∀ w ∈ wsL_law_r7, w ∈ lw_tbl := fun w h => (goodIn_p wsL_law_r7 [359, 362, 366, 369] (by decide +kernel) (by decide +kernel) w h).1
set_option maxRecDepth 100000 in
theorem inLr8 : ∀ w ∈ wsL_law_r8, w ∈ lw_tbl := fun w h => (goodIn_p wsL_law_r8 [814, 817, 373, 377, 381, 385] (by decide +kernel) (by decide +kernel) w h).1
set_option maxRecDepth 100000 in
theorem inLr9 : ∀ w ∈ wsL_law_r9, w ∈ lw_tbl := fun w h => (goodIn_p wsL_law_r9 [821, 825, 389, 829, 393] (by decide +kernel) (by decide +kernel) w h).1
set_option maxRecDepth 100000 in
theorem inLr10 : ∀ w ∈ wsL_law_r10, w ∈ lw_tbl := fun w h => (goodIn_p wsL_law_r10 [833, 397, 401, 837, 840, 405] (by decide +kernel) (by decide +kernel) w h).1
set_option maxRecDepth 100000 in
theorem inLr11 : ∀ w ∈ wsL_law_r11, w ∈ lw_tbl := fun w h => (goodIn_p wsL_law_r11 [409, 413, 416] (by decide +kernel) (by decide +kernel) w h).1
