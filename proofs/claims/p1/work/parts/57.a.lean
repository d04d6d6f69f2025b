section
variable {x y z m m2 : q_S} {c d w k : Int}
/-- what a fresh object shows -/
def q_F0 (x : q_S) : Prop := x.2.1 0 2 = 0 ∧ x.2.1 34 7 = 0 ∧ x.2.1 24 7 = 0 ∧ x.2.1 14 3 = 0 ∧ x.2.1 19 3 = 0 ∧ ∀ j, j < 1024 → x.1 32 j = 0
theorem q_F00 : q_F0 (q_vw 172 0 206 q_SL0) := ⟨rfl, rfl, rfl, rfl, rfl, fun _ _ => rfl⟩
theorem q_TNex {T : Type} {cv : T → Int64} {ex : Prop} {ox : Option (q_S × Int32 × Nat)} {om : Option (q_S × T)} (h : q_TN k ox om cv ex) (e : ex) : q_TN k ox om cv True := by
  obtain ⟨r0, r1, h1, h2, h3, h4, h5, h6⟩ := h
  exact ⟨r0, r1, h1, h2, h3, h4, h5, fun _ => h6 e⟩
theorem q_tGetF (h : q_LX k m x) (hI : q_Iv c d w m) (hF : q_F0 x) (a : Int32) : q_TN k (some (dz_X9_64_236 x a)) (dz_M288_64 m a) Int32.toInt64 True := q_TNex (q_tGet h hI a) (fun _ => hF.2.2.1)
theorem q_tRegF (h : q_LX k m x) (hI : q_Iv c d w m) (hk : k < 512) (hF : q_F0 x) (a b : Int32) : q_TN k (dz_X10_64_236 x a b) (dz_M289_64 m a b) Int32.toInt64 True := q_TNex (q_tReg h hI hk a b) (fun _ => hF.2.2.1)
theorem q_tSamF (h : q_LX k m x) (hF : q_F0 x) : q_TN k (dz_X26_64_236 x) (some (dz_M312_64 m)) q_kb True := by
  obtain ⟨r1, r2, r3, r4, r5⟩ := h.2.2.2.2.2.2.1
  rcases r1 with ⟨q1, q2⟩ | ⟨q1, q2⟩
  · refine q_TNbad h 1 false (by decide) ?_ ?_
    · unfold dz_X26_64_236
      rw [q1]; rfl
    · unfold dz_M312_64
      rw [q2]; rfl
  · rw [hF.2.1] at q1
    exact absurd q1 (by decide)
theorem q_tRstF (h : q_LX k m x) (hF : q_F0 x) (a : Int32) : q_TN k (dz_X23_64_236 x a) (dz_M308_64 m a) Int32.toInt64 True := by
  have hs : m.2.1 0 17 = 0 := h.2.1.symm.trans hF.1
  have z0 : (0 : Int32).toInt = 0 := rfl
  have es : ((0 : Int32) - 1).toInt = -1 := by decide
  by_cases l : a.toInt < 0
  · refine q_TNbad h 1 0 (by decide) ?_ ?_
    · unfold dz_X23_64_236
      rw [q_lt_T (by omega)]
      rfl
    · unfold dz_M308_64 q_let
      dsimp only
      rw [hs, q_202F (v := a) (lo := 0) (hi := (0 : Int32) - 1) (Or.inl (by omega))]
      rfl
  · refine q_TNbad h 1 0 (by decide) ?_ ?_
    · unfold dz_X23_64_236
      rw [q_lt_F (show (0 : Int32).toInt ≤ a.toInt by omega), hF.1, q_lt_F (show (0 : Int32).toInt ≤ a.toInt by omega)]
      rfl
    · unfold dz_M308_64 q_let
      dsimp only
      rw [hs, q_202F (v := a) (lo := 0) (hi := (0 : Int32) - 1) (Or.inr (by omega))]
      rfl
theorem q_tDifF (h : q_LX k m x) (hF : q_F0 x) (a : Int32) : q_TN k (dz_X24_64_236 x a) (dz_M309_64 m a) Int32.toInt64 True := by
  have hs : m.2.1 0 17 = 0 := h.2.1.symm.trans hF.1
  have z0 : (0 : Int32).toInt = 0 := rfl
  have es : ((0 : Int32) - 1).toInt = -1 := by decide
  by_cases l : a.toInt < 0
  · refine q_TNbad h 1 0 (by decide) ?_ ?_
    · unfold dz_X24_64_236
      rw [q_lt_T (by omega)]
      rfl
    · unfold dz_M309_64 q_let
      dsimp only
      rw [hs, q_202F (v := a) (lo := 0) (hi := (0 : Int32) - 1) (Or.inl (by omega))]
      rfl
  · refine q_TNbad h 1 0 (by decide) ?_ ?_
    · unfold dz_X24_64_236
      rw [q_lt_F (show (0 : Int32).toInt ≤ a.toInt by omega), hF.1, q_lt_F (show (0 : Int32).toInt ≤ a.toInt by omega)]
      rfl
    · unfold dz_M309_64 q_let
      dsimp only
      rw [hs, q_202F (v := a) (lo := 0) (hi := (0 : Int32) - 1) (Or.inr (by omega))]
      rfl
theorem q_tAgnF (h : q_LX k m x) (hF : q_F0 x) (a b : Int32) : q_TN k (dz_X15_64_236 x a b) (dz_M295_64 m a b) Int32.toInt64 True := by
  have z0 : (0 : Int32).toInt = 0 := rfl
  have z31 : (31 : Int32).toInt = 31 := rfl
  have z32 : (32 : Int32).toInt = 32 := rfl
  by_cases l_a : a.toInt < 0
  · refine q_TNbad h 1 0 (by decide) ?_ ?_
    · unfold dz_X15_64_236
      rw [q_lt_T (show a.toInt < (0 : Int32).toInt by omega)]
      rfl
    · unfold dz_M295_64 dz_M293_64 q_let
      dsimp only
      rw [q_202F (v := a) (lo := 0) (hi := 31) (Or.inl (by omega))]
      rfl
  by_cases u_a : 31 < a.toInt
  · refine q_TNbad h 1 0 (by decide) ?_ ?_
    · unfold dz_X15_64_236
      rw [q_lt_F (show (0 : Int32).toInt ≤ a.toInt by omega), q_lt_F (show (32 : Int32).toInt ≤ a.toInt by omega)]
      rfl
    · unfold dz_M295_64 dz_M293_64 q_let
      dsimp only
      rw [q_202F (v := a) (lo := 0) (hi := 31) (Or.inr (by omega))]
      rfl
  by_cases l_b : b.toInt < 0
  · refine q_TNbad h 1 0 (by decide) ?_ ?_
    · unfold dz_X15_64_236
      rw [q_lt_F (show (0 : Int32).toInt ≤ a.toInt by omega), q_lt_T (show a.toInt < (32 : Int32).toInt by omega), q_lt_T (show b.toInt < (0 : Int32).toInt by omega)]
      rfl
    · unfold dz_M295_64 dz_M293_64 q_let
      dsimp only
      rw [q_202T (v := a) (lo := 0) (hi := 31) (by omega) (by omega), q_202F (v := b) (lo := 0) (hi := 31) (Or.inl (by omega))]
      rfl
  by_cases u_b : 31 < b.toInt
  · refine q_TNbad h 1 0 (by decide) ?_ ?_
    · unfold dz_X15_64_236
      rw [q_lt_F (show (0 : Int32).toInt ≤ a.toInt by omega), q_lt_T (show a.toInt < (32 : Int32).toInt by omega), q_lt_F (show (0 : Int32).toInt ≤ b.toInt by omega), q_lt_F (show (32 : Int32).toInt ≤ b.toInt by omega)]
      rfl
    · unfold dz_M295_64 dz_M293_64 q_let
      dsimp only
      rw [q_202T (v := a) (lo := 0) (hi := 31) (by omega) (by omega), q_202F (v := b) (lo := 0) (hi := 31) (Or.inr (by omega))]
      rfl
  have e32 : (32 * b).toInt = 32 * b.toInt := q_mulI (n := 32) rfl (by decide) (by decide) ⟨by omega, by omega⟩
  have ei : ((32 * b) + a).toInt = 32 * b.toInt + a.toInt := by rw [q_addI ⟨by omega, by omega⟩ ⟨by omega, by omega⟩, e32]
  have ri : q_rgz 0 1023 ((32 * b) + a) := ⟨by omega, by omega⟩
  have e4 : (b + 4).toInt = b.toInt + 4 := q_addI ⟨by omega, by omega⟩ ⟨by decide, by decide⟩
  have e24 : (24 * (b + 4)).toInt = 24 * (b + 4).toInt := q_mulI (n := 24) rfl (by decide) (by decide) ⟨by omega, by omega⟩
  have ea : (a / 2).toInt = a.toInt / 2 := q_toInt_div (by omega) (by decide)
  have ea4 : (a / 2 + 4).toInt = (a / 2).toInt + 4 := q_addI ⟨by omega, by omega⟩ ⟨by decide, by decide⟩
  have et : ((24 * (b + 4)) + ((a / 2) + 4)).toInt = (24 * (b + 4)).toInt + ((a / 2) + 4).toInt := q_addI ⟨by omega, by omega⟩ ⟨by omega, by omega⟩
  have z1 : (q_vw 32 1 73 x).2.1 13 3 = 0 := hF.2.2.2.1
  have z2 : (q_vw 32 1 73 x).2.1 18 3 = 0 := hF.2.2.2.2.1
  have e108 : dz_N108_65_96 (q_vw 32 1 73 x) a b = some (q_vw 32 1 73 x, 0) := by
    unfold dz_N108_65_96
    rw [z1, z2, q_lt_F (show (0 : Int32).toInt ≤ ((24 * (b + 4)) + ((a / 2) + 4)).toInt by omega)]
    cases decide (lg_cmp ((((q_vw 32 1 73 x).2.2 1 8) / 960) - (((q_vw 32 1 73 x).2.2 1 8) / 960) / 2 * 2) 0 = 0) <;> rfl
  have hn : ((32 * b) + a).toNatClampNeg < 1024 := by
    show ((32 * b) + a).toInt.toNat < 1024
    omega
  have e0 : m.1 5 ((32 * b) + a).toNatClampNeg = 0 := (h.1.r8.1.1 _ hn).symm.trans (hF.2.2.2.2.2 _ hn)
  have LX : q_LX k m (q_sL (q_pt 32 3 1 73 x (q_vw 32 1 73 x)) 172 (vp_updL ((q_pt 32 3 1 73 x (q_vw 32 1 73 x)).2.2 172) 0 (0 : Int32).toInt64)) := ⟨h.1, h.2⟩
  have eM : dz_M295_64 m a b = some (q_mok m, m.1 5 ((32 * b) + a).toNatClampNeg) := by
    unfold dz_M295_64 dz_M293_64 q_let
    dsimp only
    rw [q_202T (v := a) (lo := 0) (hi := 31) (by omega) (by omega), q_202T (v := b) (lo := 0) (hi := 31) (by omega) (by omega), q_yM200, q_in_rg ri (by decide) (by decide)]
    rfl
  refine ⟨(q_sL (q_pt 32 3 1 73 x (q_vw 32 1 73 x)) 172 (vp_updL ((q_pt 32 3 1 73 x (q_vw 32 1 73 x)).2.2 172) 0 (0 : Int32).toInt64), 0, 0), _, ?_, eM, q_LXbad LX 0, Nat.zero_le _, rfl, fun _ _ => ?_⟩
  · unfold dz_X15_64_236
    rw [q_lt_F (show (0 : Int32).toInt ≤ a.toInt by omega), q_lt_T (show a.toInt < (32 : Int32).toInt by omega), q_lt_F (show (0 : Int32).toInt ≤ b.toInt by omega), q_lt_T (show b.toInt < (32 : Int32).toInt by omega), e108]
    rfl
  · show vp_updL ((q_pt 32 3 1 73 x (q_vw 32 1 73 x)).2.2 172) 0 (0 : Int32).toInt64 0 = (m.1 5 ((32 * b) + a).toNatClampNeg).toInt64
    rw [q_upL1 _ _ _ _ rfl, e0]
end
