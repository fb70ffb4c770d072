set_option maxRecDepth 100000 in
theorem inLr23 : ∀ w ∈ wsL_law_r23, w ∈ lw_tbl := fun w h => (goodIn_p wsL_law_r23 [574, 582, 587] (by decide +kernel) (by decide +kernel) w h).1
set_option maxRecDepth 100000 in
theorem inLr24 : ∀ w ∈ wsL_law_r24, w ∈ lw_tbl := fun w h => (goodIn_p wsL_law_r24 [916, 920, 924, 928, 931, 591] (by decide +kernel) (by decide +kernel) w h).1
set_option maxRecDepth 100000 in
theorem inLr25 : ∀ w ∈ wsL_law_r25, w ∈ lw_tbl := fun w h => (goodIn_p wsL_law_r25 [936, 597, 601, 940, 605] (by decide +kernel) (by decide +kernel) w h).1
set_option maxRecDepth 100000 in
theorem inLr26 : ∀ w ∈ wsL_law_r26, w ∈ lw_tbl := fun w h => (goodIn_p wsL_law_r26 [609, 614, 623, 944, 948] (by decide +kernel) (by decide +kernel) w h).1
set_option maxRecDepth 100000 in
theorem inLr27 : ∀ w ∈ wsL_law_r27, w ∈ lw_tbl := fun w h => (goodIn_p wsL_law_r27 [952, 627, 631, 956, 636, 641] (by decide +kernel) (by decide +kernel) w h).1
set_option maxRecDepth 100000 in
theorem inLr28 : ∀ w ∈ wsL_law_r28, w ∈ lw_tbl := fun w h => (goodIn_p wsL_law_r28 [645, 960, 964, 649, 653] (by decide +kernel) (by decide +kernel) w h).1
set_option maxRecDepth 100000 in
theorem inLr29 : ∀ w ∈ wsL_law_r29, w ∈ lw_tbl := fun w h => (goodIn_p wsL_law_r29 [657, 661, 968, 665, 672] (by decide +kernel) (by decide +kernel) w h).1
set_option maxRecDepth 100000 in
theorem inLr30 : ∀ w ∈ wsL_law_r30, w ∈ lw_tbl := fun w h => (goodIn_p wsL_law_r30 [972] (by decide +kernel) (by decide +kernel) w h).1
set_option maxRecDepth 100000 in
theorem inL_wsX90 : ∀ w ∈ wsX90, w ∈ lw_tbl := by decide +kernel
set_option maxRecDepth 100000 in
theorem inL_wsX100 : ∀ w ∈ wsX100, w ∈ lw_tbl := by decide +kernel
set_option maxRecDepth 100000 in
theorem inL_wsX50 : ∀ w ∈ wsX50, w ∈ lw_tbl := by decide +kernel
