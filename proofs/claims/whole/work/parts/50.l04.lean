set_option maxRecDepth 20000 in
theorem inLr21 : ∀ w ∈ wsL_law_r21, w ∈ lw_tbl := by decide +kernel
set_option maxRecDepth 20000 in
theorem inLr22 : ∀ w ∈ wsL_law_r22, w ∈ lw_tbl := by decide +kernel
set_option maxRecDepth 20000 in
theorem inLr23 : ∀ w ∈ wsL_law_r23, w ∈ lw_tbl := by decide +kernel
set_option maxRecDepth 20000 in
theorem inLr24 : ∀ w ∈ wsL_law_r24, w ∈ lw_tbl := by decide +kernel
set_option maxRecDepth 20000 in
theorem inLr25 : ∀ w ∈ wsL_law_r25, w ∈ lw_tbl := by decide +kernel
