section
variable {x y z m m2 S T : q_S} {c d w k : Int}
/-- class and model beside one another, said of the law's heap behind a turn -/
theorem q_LXV (h : q_LX k m x) (S : q_S) : q_LX k (q_vw 34 172 0 (q_pt 34 0 172 0 (q_pt 172 1 0 206 S x) m)) (q_vw 172 0 206 (q_pt 34 0 172 0 (q_pt 172 1 0 206 S x) m)) := by
  obtain ⟨h1, h2, h3, h4, h5, h6, h7, h8⟩ := h
  exact ⟨h1, h2, h3, h4, h5, h6, h7, h8⟩
/-- the class' turn leaves the model's cells -/
theorem q_LXW (h : q_LX k (q_vw 34 172 0 S) (q_vw 172 0 206 S)) (y : q_S) : q_LX k (q_vw 34 172 0 (q_pt 172 1 0 206 S y)) (q_vw 172 0 206 S) := by
  obtain ⟨h1, h2, h3, h4, h5, h6, h7, h8⟩ := h
  exact ⟨h1, h2, h3, h4, h5, h6, h7, h8⟩
end
