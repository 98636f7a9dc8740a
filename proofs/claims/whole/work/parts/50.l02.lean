set_option maxRecDepth 20000 in
theorem inLr11 : ∀ w ∈ wsL_law_r11, w ∈ lw_tbl := by decide +kernel
set_option maxRecDepth 20000 in
theorem inLr12 : ∀ w ∈ wsL_law_r12, w ∈ lw_tbl := by decide +kernel
set_option maxRecDepth 20000 in
theorem inLr13 : ∀ w ∈ wsL_law_r13, w ∈ lw_tbl := by decide +kernel
set_option maxRecDepth 20000 in
theorem inLr14 : ∀ w ∈ wsL_law_r14, w ∈ lw_tbl := by decide +kernel
set_option maxRecDepth 20000 in
theorem inLr15 : ∀ w ∈ wsL_law_r15, w ∈ lw_tbl := by decide +kernel
