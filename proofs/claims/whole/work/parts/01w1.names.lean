set_option maxRecDepth 20000 in
theorem wlI_0 : ∀ w ∈ wsL_law_r1, w ∈ lw_tbl := fun w h => (goodIn_p wsL_law_r1 [46, 49] (by decide +kernel) (by decide +kernel) w h).1
set_option maxRecDepth 20000 in
theorem wlI_1 : ∀ w ∈ wsL_law_r2, w ∈ lw_tbl := fun w h => (goodIn_p wsL_law_r2 [56] (by decide +kernel) (by decide +kernel) w h).1
set_option maxRecDepth 20000 in
theorem wlI_2 : ∀ w ∈ wsL_law_r3, w ∈ lw_tbl := fun w h => (goodIn_p wsL_law_r3 [80, 107, 125, 564] (by decide +kernel) (by decide +kernel) w h).1
set_option maxRecDepth 20000 in
theorem wlI_3 : ∀ w ∈ wsL_law_r4, w ∈ lw_tbl := fun w h => (goodIn_p wsL_law_r4 [185, 189, 192] (by decide +kernel) (by decide +kernel) w h).1
set_option maxRecDepth 20000 in
theorem wlI_4 : ∀ w ∈ wsL_law_r5, w ∈ lw_tbl := fun w h => (goodIn_p wsL_law_r5 [195, 199, 203, 206, 663, 666] (by decide +kernel) (by decide +kernel) w h).1
set_option maxRecDepth 20000 in
theorem wlI_5 : ∀ w ∈ wsL_law_r6, w ∈ lw_tbl := fun w h => (goodIn_p wsL_law_r6 [670, 675, 210, 214, 218, 679] (by decide +kernel) (by decide +kernel) w h).1
set_option maxRecDepth 20000 in
theorem wlI_6 : ∀ w ∈ wsL_law_r7, w ∈ lw_tbl := fun w h => (goodIn_p wsL_law_r7 [222, 226, 231, 235, 239] (by decide +kernel) (by decide +kernel) w h).1
set_option maxRecDepth 20000 in
theorem wlI_7 : ∀ w ∈ wsL_law_r8, w ∈ lw_tbl := fun w h => (goodIn_p wsL_law_r8 [683, 687, 243, 248, 691, 252] (by decide +kernel) (by decide +kernel) w h).1
set_option maxRecDepth 20000 in
theorem wlI_8 : ∀ w ∈ wsL_law_r9, w ∈ lw_tbl := fun w h => (goodIn_p wsL_law_r9 [256, 696, 263, 700] (by decide +kernel) (by decide +kernel) w h).1
