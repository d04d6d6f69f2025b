section
variable {x y z m m2 : q_S} {c d w k : Int}
theorem q_agMr (m : q_S) (t : Nat) : q_agM m (q_svd t (q_mok m)) := ⟨fun _ _ => rfl, fun _ _ => rfl, fun _ _ => rfl, fun _ _ => rfl, fun _ _ => rfl, fun _ _ => rfl, fun _ _ => rfl, fun _ _ => rfl, fun _ _ => rfl, fun _ _ => rfl, fun _ _ => rfl, fun _ _ => rfl, fun _ _ => rfl, fun _ _ => rfl, fun _ _ => rfl, rfl, rfl⟩
/-- flags of the class' machine are 0 or 1 -/
theorem q_iNof {TT : (Nat → Int32) → Int32 → (Nat → Int32) → Int32 → Int64 → Int64 → List Int32 → List (Nat → Int32) → (Nat → Int64) → Prop} (h : q_R TT x m) (h6 : q_rgz 0 1 (m.1 15 6)) (h7 : q_rgz 0 1 (m.1 15 7)) : q_iN x := ⟨by rw [h.r6.2.2.1]; exact h6, by rw [h.r6.2.2.2.1]; exact h7⟩
theorem q_agXr (x : q_S) : q_agX x x := ⟨fun _ _ => rfl, fun _ _ => rfl, fun _ _ => rfl, fun _ _ => rfl, fun _ _ => rfl, fun _ _ => rfl, fun _ _ => rfl, fun _ _ => rfl, fun _ _ => rfl, fun _ _ => rfl, fun _ _ => rfl, fun _ _ => rfl, fun _ _ => rfl, fun _ _ => rfl, fun _ _ => rfl, rfl, rfl, rfl, rfl, rfl, rfl, rfl, rfl, rfl, rfl, rfl, rfl, rfl, rfl, rfl, rfl, rfl, rfl, rfl⟩
def q_x0 (x r : q_S) : q_S := q_sL (q_sI (q_pt 32 32 76 1 x r) 0 2 1) 172 (vp_updL ((q_pt 32 32 76 1 x r).2.2 172) 0 0)
theorem q_tSav0 (h : q_LX k m x) (hI : q_Iv c d w m) (hs : m.2.1 0 17 = 0) : q_TN k (dz_X22_64_236 x) (dz_M305_64 m) Int32.toInt64 True := by
  obtain ⟨h1, h2, h3, h4, h5, h6, ⟨r1, r2, r3, r4, r5⟩, h8⟩ := h
  have hn : (m.1 14 13).toInt ≤ 40 := (hI.1 14 13).2
  have hp : 0 ≤ (m.1 14 14).toInt := (hI.1 14 14).1
  have hsI : (m.2.1 0 17).toInt = (0 : Nat) := by rw [hs]; rfl
  have tt := q_R_t h1
  obtain ⟨i6, i7⟩ := q_iNof h1 (hI.1 15 6) (hI.1 15 7)
  obtain ⟨r, a1, a2, a3, a4, a5⟩ := q_bcm (q_vw 32 76 1 x) i6 i7
  have A := a2
  obtain ⟨-, -, -, -, -, -, -, -, -, -, -, -, -, -, -, -, -, -, -, -, -, -, -, -, -, -, -, -, -, -, -, e11, -, -⟩ := A
  refine ⟨(q_x0 x r, 0, 0), (q_svd 0 (q_mok m), m.2.1 0 17), ?_, q_306e hI (by decide) hsI, ⟨?_, ?_, ?_, ?_, ?_, h6, ⟨r1, r2, by show (x.2.1 34 5).toInt ≤ k + 1; omega, r4, r5⟩, h8⟩, Nat.zero_le _, rfl, fun _ _ => ?_⟩
  rotate_left
  · have s1 : q_R (q_TT0 0 (q_svF m) (q_svW m) (m.2.2 31)) (q_src r) m := by rw [a3]; exact h1
    have s2 : q_RO (q_svd 0 (q_mok m)) (q_src r) (q_svd 0 (q_mok m)) := q_R_ag s1 (q_agXr _) (q_agMr m 0) hn hp (by
      have t9 := q_R_t s1
      exact ⟨t9.1, t9.2.1, t9.2.2.1, rfl, rfl, rfl⟩)
    exact s2
  · show ((1 : Int32)) = (m.2.1 0 17) + 1
    rw [hs]; rfl
  · intro _
    refine q_R_ag h1 (x := q_vwM x) (y := q_vwS 0 (q_x0 x r)) a2 (q_agSv hI 0) hn hp ?_
    exact ⟨fun j hj => Eq.trans (a2.2.2.2.2.2.2.2.2.1 j hj) (Eq.trans (tt.1 j hj) ((q_agSv hI 0).2.2.2.2.2.2.2.2.1 j hj).symm), e11.trans (tt.2.1.trans ((q_agSv hI 0).2.2.2.2.2.2.2.2.2.2.2.2.2.1 20 (by decide)).symm), by
      have e16 := (q_agSv hI 0).2.2.2.2.2.2.2.2.2.2.2.2.2.2.2.2
      have e4 : (q_vwS 0 (q_x0 x r)).2.2 0 4 = (q_vwM x).2.2 0 4 := a4
      have e0 := tt.2.2.1
      rw [Int64.add_zero] at e0
      exact (e4.trans e0).trans e16.symm⟩
  · intro q
    have q' : (1 : Int) < ((m.2.1 0 17) + 1).toInt := q
    rw [show m.2.1 0 17 = 0 from hs] at q'
    exact absurd q' (by decide)
  · intro q
    have q' : (2 : Int) < ((m.2.1 0 17) + 1).toInt := q
    rw [show m.2.1 0 17 = 0 from hs] at q'
    exact absurd q' (by decide)
  · show vp_updL ((q_pt 32 32 76 1 x r).2.2 172) 0 (0 : Int64) 0 = (m.2.1 0 17).toInt64
    rw [q_upL1 _ _ _ _ rfl, hs]; rfl
  · unfold dz_X22_64_236
    rw [show x.2.1 0 2 = 0 from h2.trans hs, a1]
    rfl
def q_x1 (x r : q_S) : q_S := q_sL (q_sI (q_pt 32 32 108 1 x r) 0 2 2) 172 (vp_updL ((q_pt 32 32 108 1 x r).2.2 172) 0 1)
theorem q_tSav1 (h : q_LX k m x) (hI : q_Iv c d w m) (hs : m.2.1 0 17 = 1) : q_TN k (dz_X22_64_236 x) (dz_M305_64 m) Int32.toInt64 True := by
  obtain ⟨h1, h2, h3, h4, h5, h6, ⟨r1, r2, r3, r4, r5⟩, h8⟩ := h
  have hn : (m.1 14 13).toInt ≤ 40 := (hI.1 14 13).2
  have hp : 0 ≤ (m.1 14 14).toInt := (hI.1 14 14).1
  have hsI : (m.2.1 0 17).toInt = (1 : Nat) := by rw [hs]; rfl
  have tt := q_R_t h1
  obtain ⟨i6, i7⟩ := q_iNof h1 (hI.1 15 6) (hI.1 15 7)
  obtain ⟨r, a1, a2, a3, a4, a5⟩ := q_bcm (q_vw 32 108 1 x) i6 i7
  have A := a2
  obtain ⟨-, -, -, -, -, -, -, -, -, -, -, -, -, -, -, -, -, -, -, -, -, -, -, -, -, -, -, -, -, -, -, e11, -, -⟩ := A
  refine ⟨(q_x1 x r, 0, 0), (q_svd 1 (q_mok m), m.2.1 0 17), ?_, q_306e hI (by decide) hsI, ⟨?_, ?_, ?_, ?_, ?_, h6, ⟨r1, r2, by show (x.2.1 34 5).toInt ≤ k + 1; omega, r4, r5⟩, h8⟩, Nat.zero_le _, rfl, fun _ _ => ?_⟩
  rotate_left
  · have s1 : q_R (q_TT0 0 (q_svF m) (q_svW m) (m.2.2 31)) (q_src r) m := by rw [a3]; exact h1
    have s2 : q_RO (q_svd 1 (q_mok m)) (q_src r) (q_svd 1 (q_mok m)) := q_R_ag s1 (q_agXr _) (q_agMr m 1) hn hp (by
      have t9 := q_R_t s1
      exact ⟨t9.1, t9.2.1, t9.2.2.1, rfl, rfl, rfl⟩)
    exact s2
  · show ((2 : Int32)) = (m.2.1 0 17) + 1
    rw [hs]; rfl
  · intro _
    have hu := h3 (by omega)
    have tu := q_R_t hu
    refine q_R_ag hu (q_agXr _) (q_agSu 1 0 (by decide)) (by show (m.1 29 (24 * 0 + 13)).toInt ≤ 40; exact (hI.1 29 (24 * 0 + 13)).2) (by show 0 ≤ (m.1 29 (24 * 0 + 14)).toInt; exact (hI.1 29 (24 * 0 + 14)).1) ?_
    exact ⟨fun j hj => Eq.trans (tu.1 j hj) ((q_agSu (m := m) 1 0 (by decide)).2.2.2.2.2.2.2.2.1 j hj).symm, tu.2.1.trans ((q_agSu (m := m) 1 0 (by decide)).2.2.2.2.2.2.2.2.2.2.2.2.2.1 20 (by decide)).symm, tu.2.2.trans ((q_agSu (m := m) 1 0 (by decide)).2.2.2.2.2.2.2.2.2.2.2.2.2.2.2.2).symm⟩
  · intro _
    refine q_R_ag h1 (x := q_vwM x) (y := q_vwS 1 (q_x1 x r)) a2 (q_agSv hI 1) hn hp ?_
    exact ⟨fun j hj => Eq.trans (a2.2.2.2.2.2.2.2.2.1 j hj) (Eq.trans (tt.1 j hj) ((q_agSv hI 1).2.2.2.2.2.2.2.2.1 j hj).symm), e11.trans (tt.2.1.trans ((q_agSv hI 1).2.2.2.2.2.2.2.2.2.2.2.2.2.1 20 (by decide)).symm), by
      have e16 := (q_agSv hI 1).2.2.2.2.2.2.2.2.2.2.2.2.2.2.2.2
      have e4 : (q_vwS 1 (q_x1 x r)).2.2 0 4 = (q_vwM x).2.2 0 4 := a4
      have e0 := tt.2.2.1
      rw [Int64.add_zero] at e0
      exact (e4.trans e0).trans e16.symm⟩
  · intro q
    have q' : (2 : Int) < ((m.2.1 0 17) + 1).toInt := q
    rw [show m.2.1 0 17 = 1 from hs] at q'
    exact absurd q' (by decide)
  · show vp_updL ((q_pt 32 32 108 1 x r).2.2 172) 0 (1 : Int64) 0 = (m.2.1 0 17).toInt64
    rw [q_upL1 _ _ _ _ rfl, hs]; rfl
  · unfold dz_X22_64_236
    rw [show x.2.1 0 2 = 1 from h2.trans hs, a1]
    rfl
def q_x2 (x r : q_S) : q_S := q_sL (q_sI (q_pt 32 32 140 1 x r) 0 2 3) 172 (vp_updL ((q_pt 32 32 140 1 x r).2.2 172) 0 2)
theorem q_tSav2 (h : q_LX k m x) (hI : q_Iv c d w m) (hs : m.2.1 0 17 = 2) : q_TN k (dz_X22_64_236 x) (dz_M305_64 m) Int32.toInt64 True := by
  obtain ⟨h1, h2, h3, h4, h5, h6, ⟨r1, r2, r3, r4, r5⟩, h8⟩ := h
  have hn : (m.1 14 13).toInt ≤ 40 := (hI.1 14 13).2
  have hp : 0 ≤ (m.1 14 14).toInt := (hI.1 14 14).1
  have hsI : (m.2.1 0 17).toInt = (2 : Nat) := by rw [hs]; rfl
  have tt := q_R_t h1
  obtain ⟨i6, i7⟩ := q_iNof h1 (hI.1 15 6) (hI.1 15 7)
  obtain ⟨r, a1, a2, a3, a4, a5⟩ := q_bcm (q_vw 32 140 1 x) i6 i7
  have A := a2
  obtain ⟨-, -, -, -, -, -, -, -, -, -, -, -, -, -, -, -, -, -, -, -, -, -, -, -, -, -, -, -, -, -, -, e11, -, -⟩ := A
  refine ⟨(q_x2 x r, 0, 0), (q_svd 2 (q_mok m), m.2.1 0 17), ?_, q_306e hI (by decide) hsI, ⟨?_, ?_, ?_, ?_, ?_, h6, ⟨r1, r2, by show (x.2.1 34 5).toInt ≤ k + 1; omega, r4, r5⟩, h8⟩, Nat.zero_le _, rfl, fun _ _ => ?_⟩
  rotate_left
  · have s1 : q_R (q_TT0 0 (q_svF m) (q_svW m) (m.2.2 31)) (q_src r) m := by rw [a3]; exact h1
    have s2 : q_RO (q_svd 2 (q_mok m)) (q_src r) (q_svd 2 (q_mok m)) := q_R_ag s1 (q_agXr _) (q_agMr m 2) hn hp (by
      have t9 := q_R_t s1
      exact ⟨t9.1, t9.2.1, t9.2.2.1, rfl, rfl, rfl⟩)
    exact s2
  · show ((3 : Int32)) = (m.2.1 0 17) + 1
    rw [hs]; rfl
  · intro _
    have hu := h3 (by omega)
    have tu := q_R_t hu
    refine q_R_ag hu (q_agXr _) (q_agSu 2 0 (by decide)) (by show (m.1 29 (24 * 0 + 13)).toInt ≤ 40; exact (hI.1 29 (24 * 0 + 13)).2) (by show 0 ≤ (m.1 29 (24 * 0 + 14)).toInt; exact (hI.1 29 (24 * 0 + 14)).1) ?_
    exact ⟨fun j hj => Eq.trans (tu.1 j hj) ((q_agSu (m := m) 2 0 (by decide)).2.2.2.2.2.2.2.2.1 j hj).symm, tu.2.1.trans ((q_agSu (m := m) 2 0 (by decide)).2.2.2.2.2.2.2.2.2.2.2.2.2.1 20 (by decide)).symm, tu.2.2.trans ((q_agSu (m := m) 2 0 (by decide)).2.2.2.2.2.2.2.2.2.2.2.2.2.2.2.2).symm⟩
  · intro _
    have hu := h4 (by omega)
    have tu := q_R_t hu
    refine q_R_ag hu (q_agXr _) (q_agSu 2 1 (by decide)) (by show (m.1 29 (24 * 1 + 13)).toInt ≤ 40; exact (hI.1 29 (24 * 1 + 13)).2) (by show 0 ≤ (m.1 29 (24 * 1 + 14)).toInt; exact (hI.1 29 (24 * 1 + 14)).1) ?_
    exact ⟨fun j hj => Eq.trans (tu.1 j hj) ((q_agSu (m := m) 2 1 (by decide)).2.2.2.2.2.2.2.2.1 j hj).symm, tu.2.1.trans ((q_agSu (m := m) 2 1 (by decide)).2.2.2.2.2.2.2.2.2.2.2.2.2.1 20 (by decide)).symm, tu.2.2.trans ((q_agSu (m := m) 2 1 (by decide)).2.2.2.2.2.2.2.2.2.2.2.2.2.2.2.2).symm⟩
  · intro _
    refine q_R_ag h1 (x := q_vwM x) (y := q_vwS 2 (q_x2 x r)) a2 (q_agSv hI 2) hn hp ?_
    exact ⟨fun j hj => Eq.trans (a2.2.2.2.2.2.2.2.2.1 j hj) (Eq.trans (tt.1 j hj) ((q_agSv hI 2).2.2.2.2.2.2.2.2.1 j hj).symm), e11.trans (tt.2.1.trans ((q_agSv hI 2).2.2.2.2.2.2.2.2.2.2.2.2.2.1 20 (by decide)).symm), by
      have e16 := (q_agSv hI 2).2.2.2.2.2.2.2.2.2.2.2.2.2.2.2.2
      have e4 : (q_vwS 2 (q_x2 x r)).2.2 0 4 = (q_vwM x).2.2 0 4 := a4
      have e0 := tt.2.2.1
      rw [Int64.add_zero] at e0
      exact (e4.trans e0).trans e16.symm⟩
  · show vp_updL ((q_pt 32 32 140 1 x r).2.2 172) 0 (2 : Int64) 0 = (m.2.1 0 17).toInt64
    rw [q_upL1 _ _ _ _ rfl, hs]; rfl
  · unfold dz_X22_64_236
    rw [show x.2.1 0 2 = 2 from h2.trans hs, a1]
    rfl
theorem q_tSav (h : q_LX k m x) (hI : q_Iv c d w m) : q_TN k (dz_X22_64_236 x) (dz_M305_64 m) Int32.toInt64 True := by
  have g : q_rgz 0 3 (m.2.1 0 17) := hI.2.1 0 17
  have g0 := g.1
  have g1 := g.2
  rcases (by omega : (m.2.1 0 17).toInt = 0 ∨ (m.2.1 0 17).toInt = 1 ∨ (m.2.1 0 17).toInt = 2 ∨ (m.2.1 0 17).toInt = 3) with e | e | e | e
  · exact q_tSav0 h hI (Int32.toInt_inj.mp e)
  · exact q_tSav1 h hI (Int32.toInt_inj.mp e)
  · exact q_tSav2 h hI (Int32.toInt_inj.mp e)
  · have e3 : m.2.1 0 17 = 3 := Int32.toInt_inj.mp e
    refine q_TNbad h 1 0 (by decide) ?_ ?_
    · unfold dz_X22_64_236
      rw [show x.2.1 0 2 = 3 from h.2.1.trans e3]
      rfl
    · unfold dz_M305_64
      rw [e3]
      rfl
end
