theorem q_NW_in : ∀ w ∈ q_NW, w ∈ lw_tbl := by decide +kernel
