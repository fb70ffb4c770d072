set_option maxRecDepth 100000 in
theorem inLr12 : ∀ w ∈ wsL_law_r12, w ∈ lw_tbl := fun w h => (goodIn_p wsL_law_r12 [844, 848, 420, 424, 428] (by decide +kernel) (by decide +kernel) w h).1
set_option maxRecDepth 100000 in
theorem inLr13 : ∀ w ∈ wsL_law_r13, w ∈ lw_tbl := fun w h => (goodIn_p wsL_law_r13 [432, 435, 439, 443] (by decide +kernel) (by decide +kernel) w h).1
set_option maxRecDepth 100000 in
theorem inLr14 : ∀ w ∈ wsL_law_r14, w ∈ lw_tbl := fun w h => (goodIn_p wsL_law_r14 [447, 450, 454, 458, 462, 465, 468] (by decide +kernel) (by decide +kernel) w h).1
set_option maxRecDepth 100000 in
theorem inLr15 : ∀ w ∈ wsL_law_r15, w ∈ lw_tbl := fun w h => (goodIn_p wsL_law_r15 [852, 856, 860, 864] (by decide +kernel) (by decide +kernel) w h).1
set_option maxRecDepth 100000 in
theorem inLr16 : ∀ w ∈ wsL_law_r16, w ∈ lw_tbl := fun w h => (goodIn_p wsL_law_r16 [868, 475, 872] (by decide +kernel) (by decide +kernel) w h).1
set_option maxRecDepth 100000 in
theorem inLr17 : ∀ w ∈ wsL_law_r17, w ∈ lw_tbl := fun w h => (goodIn_p wsL_law_r17 [483, 487, 490, 877, 881, 884, 494] (by decide +kernel) (by decide +kernel) w h).1
set_option maxRecDepth 100000 in
theorem inLr18 : ∀ w ∈ wsL_law_r18, w ∈ lw_tbl := fun w h => (goodIn_p wsL_law_r18 [498, 502, 506, 510] (by decide +kernel) (by decide +kernel) w h).1
set_option maxRecDepth 100000 in
theorem inLr19 : ∀ w ∈ wsL_law_r19, w ∈ lw_tbl := fun w h => (goodIn_p wsL_law_r19 [514, 520, 888, 892, 896] (by decide +kernel) (by decide +kernel) w h).1
set_option maxRecDepth 100000 in
theorem inLr20 : ∀ w ∈ wsL_law_r20, w ∈ lw_tbl := fun w h => (goodIn_p wsL_law_r20 [524, 900, 528, 904, 532] (by decide +kernel) (by decide +kernel) w h).1
set_option maxRecDepth 100000 in
theorem inLr21 : ∀ w ∈ wsL_law_r21, w ∈ lw_tbl := fun w h => (goodIn_p wsL_law_r21 [535, 538, 908, 542, 546, 912] (by decide +kernel) (by decide +kernel) w h).1
set_option maxRecDepth 100000 in
theorem inLr22 : ∀ w ∈ wsL_law_r22, w ∈ lw_tbl := fun w h => (goodIn_p wsL_law_r22 [551, 555, 559, 563, 568] (by decide +kernel) (by decide +kernel) w h).1
