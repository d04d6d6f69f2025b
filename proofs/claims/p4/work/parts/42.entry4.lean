theorem q_NW_on : ∀ w ∈ q_NW, w.onTables = true := by decide +kernel
