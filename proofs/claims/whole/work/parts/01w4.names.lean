set_option maxRecDepth 20000 in
theorem wlI_27 : ∀ w ∈ wsL_law_r28, w ∈ lw_tbl := fun w h => (goodIn_p wsL_law_r28 [540, 543, 852, 547, 856, 551] (by decide +kernel) (by decide +kernel) w h).1
set_option maxRecDepth 20000 in
theorem wlI_28 : ∀ w ∈ wsL_law_r29, w ∈ lw_tbl := fun w h => (goodIn_p wsL_law_r29 [558, 860] (by decide +kernel) (by decide +kernel) w h).1
set_option maxRecDepth 20000 in
theorem wlI_29 : ∀ w ∈ wsX40, w ∈ lw_tbl := fun w h => (goodIn_p wsX40 [] (by decide +kernel) (by decide +kernel) w h).1
set_option maxRecDepth 20000 in
theorem wlI_30 : ∀ w ∈ wsX50, w ∈ lw_tbl := fun w h => (goodIn_p wsX50 [] (by decide +kernel) (by decide +kernel) w h).1
set_option maxRecDepth 20000 in
theorem wlI_31 : ∀ w ∈ wsX30, w ∈ lw_tbl := fun w h => (goodIn_p wsX30 [] (by decide +kernel) (by decide +kernel) w h).1
set_option maxRecDepth 20000 in
theorem wlI_32 : ∀ w ∈ wsX00, w ∈ lw_tbl := fun w h => (goodIn_p wsX00 [] (by decide +kernel) (by decide +kernel) w h).1
set_option maxRecDepth 20000 in
theorem wlI_33 : ∀ w ∈ wsX10, w ∈ lw_tbl := fun w h => (goodIn_p wsX10 [] (by decide +kernel) (by decide +kernel) w h).1
set_option maxRecDepth 20000 in
theorem wlI_34 : ∀ w ∈ wsX20, w ∈ lw_tbl := fun w h => (goodIn_p wsX20 [] (by decide +kernel) (by decide +kernel) w h).1
theorem wsL_law_in : ∀ w ∈ wsL_law, w ∈ lw_tbl := by
  intro w h
  unfold wsL_law at h
  simp only [List.mem_append, List.not_mem_nil, or_false] at h
  rcases h with ((((((h | h | h | h | h | h | h | h | h | h | h | h | h | h | h | h | h | h | h | h | h | h | h | h | h | h | h | h | h) | h) | h) | h) | h) | h) | h
  · exact wlI_0 w h
  · exact wlI_1 w h
  · exact wlI_2 w h
  · exact wlI_3 w h
  · exact wlI_4 w h
  · exact wlI_5 w h
  · exact wlI_6 w h
  · exact wlI_7 w h
  · exact wlI_8 w h
  · exact wlI_9 w h
  · exact wlI_10 w h
  · exact wlI_11 w h
  · exact wlI_12 w h
  · exact wlI_13 w h
  · exact wlI_14 w h
  · exact wlI_15 w h
  · exact wlI_16 w h
  · exact wlI_17 w h
  · exact wlI_18 w h
  · exact wlI_19 w h
  · exact wlI_20 w h
  · exact wlI_21 w h
  · exact wlI_22 w h
  · exact wlI_23 w h
  · exact wlI_24 w h
  · exact wlI_25 w h
  · exact wlI_26 w h
  · exact wlI_27 w h
  · exact wlI_28 w h
  · exact wlI_29 w h
  · exact wlI_30 w h
  · exact wlI_31 w h
  · exact wlI_32 w h
  · exact wlI_33 w h
  · exact wlI_34 w h

theorem inX0 : ∀ w ∈ wsX00, w ∈ lw_tbl := fun w h => wsL_law_in w (inlX0 w h)
theorem inX1 : ∀ w ∈ wsX10, w ∈ lw_tbl := fun w h => wsL_law_in w (inlX1 w h)
theorem inX2 : ∀ w ∈ wsX20, w ∈ lw_tbl := fun w h => wsL_law_in w (inlX2 w h)
theorem inX3 : ∀ w ∈ wsX30, w ∈ lw_tbl := fun w h => wsL_law_in w (inlX3 w h)
theorem inX4 : ∀ w ∈ wsX40, w ∈ lw_tbl := fun w h => wsL_law_in w (inlX4 w h)
theorem inX5 : ∀ w ∈ wsX50, w ∈ lw_tbl := fun w h => wsL_law_in w (inlX5 w h)
theorem inJ9 : ∀ w ∈ wsJ90, w ∈ lw_tbl := by decide +kernel
theorem inJ10 : ∀ w ∈ wsJ100, w ∈ lw_tbl := by decide +kernel
