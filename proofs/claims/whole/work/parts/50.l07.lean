set_option maxRecDepth 20000 in
theorem inLr36 : ∀ w ∈ wsL_law_r36, w ∈ lw_tbl := by decide +kernel
