section
variable {x y z m m2 : q_S} {c d w k : Int}
theorem q_tReg (h : q_LX k m x) (hI : q_Iv c d w m) (hk : k < 512) (a b : Int32) : q_TN k (dz_X10_64_236 x a b) (dz_M288_64 m a b) Int32.toInt64 (a.toInt = 4 → x.2.1 24 7 = 0) := by
  have z0 : (0 : Int32).toInt = 0 := rfl
  have z4 : (4 : Int32).toInt = 4 := rfl
  have z5 : (5 : Int32).toInt = 5 := rfl
  have z255 : (255 : Int32).toInt = 255 := rfl
  have z4095 : (4095 : Int32).toInt = 4095 := rfl
  have eL : x.2.1 24 9 = m.1 14 17 := h.1.r6.2.2.2.2.2.1
  by_cases l_a : a.toInt < 0
  · refine q_TNbad h 1 0 (by decide) ?_ ?_
    · unfold dz_X10_64_236
      rw [q_lt_T (show a.toInt < (0 : Int32).toInt by omega)]
      rfl
    · unfold dz_M288_64 q_let
      dsimp only
      rw [q_202F (v := a) (lo := 0) (hi := 4) (Or.inl (by omega))]
      rfl
  by_cases u_a : 4 < a.toInt
  · refine q_TNbad h 1 0 (by decide) ?_ ?_
    · unfold dz_X10_64_236
      rw [q_lt_F (show (0 : Int32).toInt ≤ a.toInt by omega), q_lt_F (show (5 : Int32).toInt ≤ a.toInt by omega)]
      rfl
    · unfold dz_M288_64 q_let
      dsimp only
      rw [q_202F (v := a) (lo := 0) (hi := 4) (Or.inr (by omega))]
      rfl
  by_cases a4 : a.toInt = 4
  · by_cases hbl : b.toInt < 0
    · refine q_TNbad h 2 0 (by decide) ?_ ?_
      · unfold dz_X10_64_236
        rw [q_lt_F (show (0 : Int32).toInt ≤ a.toInt by omega), q_lt_T (show a.toInt < (5 : Int32).toInt by omega), q_eq_T (show a.toInt = (4 : Int32).toInt by omega), q_lt_T (show b.toInt < (0 : Int32).toInt by omega)]
        rfl
      · unfold dz_M288_64 q_let
        dsimp only
        rw [q_202T (v := a) (lo := 0) (hi := 4) (by omega) (by omega), q_eq_T (show a.toInt = (4 : Int32).toInt by omega), q_202F (v := b) (lo := 0) (hi := 4095) (Or.inl (by omega))]
        rfl
    by_cases hbu : 4095 < b.toInt
    · refine q_TNbad h 2 0 (by decide) ?_ ?_
      · unfold dz_X10_64_236
        rw [q_lt_F (show (0 : Int32).toInt ≤ a.toInt by omega), q_lt_T (show a.toInt < (5 : Int32).toInt by omega), q_eq_T (show a.toInt = (4 : Int32).toInt by omega), q_lt_F (show (0 : Int32).toInt ≤ b.toInt by omega), q_lt_T (show (4095 : Int32).toInt < b.toInt by omega)]
        rfl
      · unfold dz_M288_64 q_let
        dsimp only
        rw [q_202T (v := a) (lo := 0) (hi := 4) (by omega) (by omega), q_eq_T (show a.toInt = (4 : Int32).toInt by omega), q_202F (v := b) (lo := 0) (hi := 4095) (Or.inr (by omega))]
        rfl
    by_cases hl : 0 < (m.1 14 17).toInt
    · refine q_TNbad h 3 0 (by decide) ?_ ?_
      · unfold dz_X10_64_236
        rw [q_lt_F (show (0 : Int32).toInt ≤ a.toInt by omega), q_lt_T (show a.toInt < (5 : Int32).toInt by omega), q_eq_T (show a.toInt = (4 : Int32).toInt by omega), q_lt_F (show (0 : Int32).toInt ≤ b.toInt by omega), q_lt_F (show b.toInt ≤ (4095 : Int32).toInt by omega), eL, q_lt_T (show (0 : Int32).toInt < (m.1 14 17).toInt by omega)]
        rfl
      · unfold dz_M288_64 q_let
        dsimp only
        rw [q_202T (v := a) (lo := 0) (hi := 4) (by omega) (by omega), q_eq_T (show a.toInt = (4 : Int32).toInt by omega), q_202T (v := b) (lo := 0) (hi := 4095) (by omega) (by omega), q_lt_T (show (0 : Int32).toInt < (m.1 14 17).toInt by omega)]
        rfl
    obtain ⟨y, m2, r, r', e1, e2, e3, e4, e5⟩ := q_aReg (q_ROkp h.1 4 a b 0) a b 0 ⟨by omega, by omega⟩ (by omega) (by omega) (by omega) (by omega)
    refine q_TNok h hk 4 a b 0 ((q_pt 32 3 1 73 (dz_X184_98 x 4 a b 0) y).2.2 172) r.toInt64 r' e3 e4 ?_ e2 (fun q => by rw [e5 (fun w => by show (dz_X184_98 x 4 a b 0).2.1 24 7 = 0; rw [q_X184_24]; exact q w)])
    unfold dz_X10_64_236 q_let
    rw [q_lt_F (show (0 : Int32).toInt ≤ a.toInt by omega), q_lt_T (show a.toInt < (5 : Int32).toInt by omega), q_eq_T (show a.toInt = (4 : Int32).toInt by omega), q_lt_F (show (0 : Int32).toInt ≤ b.toInt by omega), q_lt_F (show b.toInt ≤ (4095 : Int32).toInt by omega), eL, q_lt_F (show (m.1 14 17).toInt ≤ (0 : Int32).toInt by omega)]
    dsimp only
    simp only [cond_true, cond_false]
    rw [e1]
    rfl
  · by_cases hbl : b.toInt < 0
    · refine q_TNbad h 2 0 (by decide) ?_ ?_
      · unfold dz_X10_64_236
        rw [q_lt_F (show (0 : Int32).toInt ≤ a.toInt by omega), q_lt_T (show a.toInt < (5 : Int32).toInt by omega), q_eq_F (show ¬ a.toInt = (4 : Int32).toInt by omega), q_lt_T (show b.toInt < (0 : Int32).toInt by omega)]
        rfl
      · unfold dz_M288_64 q_let
        dsimp only
        rw [q_202T (v := a) (lo := 0) (hi := 4) (by omega) (by omega), q_eq_F (show ¬ a.toInt = (4 : Int32).toInt by omega), q_202F (v := b) (lo := 0) (hi := 255) (Or.inl (by omega))]
        rfl
    by_cases hbu : 255 < b.toInt
    · refine q_TNbad h 2 0 (by decide) ?_ ?_
      · unfold dz_X10_64_236
        rw [q_lt_F (show (0 : Int32).toInt ≤ a.toInt by omega), q_lt_T (show a.toInt < (5 : Int32).toInt by omega), q_eq_F (show ¬ a.toInt = (4 : Int32).toInt by omega), q_lt_F (show (0 : Int32).toInt ≤ b.toInt by omega), q_lt_T (show (255 : Int32).toInt < b.toInt by omega)]
        rfl
      · unfold dz_M288_64 q_let
        dsimp only
        rw [q_202T (v := a) (lo := 0) (hi := 4) (by omega) (by omega), q_eq_F (show ¬ a.toInt = (4 : Int32).toInt by omega), q_202F (v := b) (lo := 0) (hi := 255) (Or.inr (by omega))]
        rfl
    by_cases hl : 0 < (m.1 14 17).toInt
    · refine q_TNbad h 3 0 (by decide) ?_ ?_
      · unfold dz_X10_64_236
        rw [q_lt_F (show (0 : Int32).toInt ≤ a.toInt by omega), q_lt_T (show a.toInt < (5 : Int32).toInt by omega), q_eq_F (show ¬ a.toInt = (4 : Int32).toInt by omega), q_lt_F (show (0 : Int32).toInt ≤ b.toInt by omega), q_lt_F (show b.toInt ≤ (255 : Int32).toInt by omega), eL, q_lt_T (show (0 : Int32).toInt < (m.1 14 17).toInt by omega)]
        rfl
      · unfold dz_M288_64 q_let
        dsimp only
        rw [q_202T (v := a) (lo := 0) (hi := 4) (by omega) (by omega), q_eq_F (show ¬ a.toInt = (4 : Int32).toInt by omega), q_202T (v := b) (lo := 0) (hi := 255) (by omega) (by omega), q_lt_T (show (0 : Int32).toInt < (m.1 14 17).toInt by omega)]
        rfl
    obtain ⟨y, m2, r, r', e1, e2, e3, e4, e5⟩ := q_aReg (q_ROkp h.1 4 a b 0) a b 0 ⟨by omega, by omega⟩ (by omega) (by omega) (by omega) (by omega)
    refine q_TNok h hk 4 a b 0 ((q_pt 32 3 1 73 (dz_X184_98 x 4 a b 0) y).2.2 172) r.toInt64 r' e3 e4 ?_ e2 (fun q => by rw [e5 (fun w => by show (dz_X184_98 x 4 a b 0).2.1 24 7 = 0; rw [q_X184_24]; exact q w)])
    unfold dz_X10_64_236 q_let
    rw [q_lt_F (show (0 : Int32).toInt ≤ a.toInt by omega), q_lt_T (show a.toInt < (5 : Int32).toInt by omega), q_eq_F (show ¬ a.toInt = (4 : Int32).toInt by omega), q_lt_F (show (0 : Int32).toInt ≤ b.toInt by omega), q_lt_F (show b.toInt ≤ (255 : Int32).toInt by omega), eL, q_lt_F (show (m.1 14 17).toInt ≤ (0 : Int32).toInt by omega)]
    dsimp only
    simp only [cond_true, cond_false]
    rw [e1]
    rfl
theorem q_tAsm (h : q_LX k m x) (hI : q_Iv c d w m) (hk : k < 512) (a b e0 : Int32) : q_TN k (dz_X5_64_236 x a b e0) (dz_M278_64 m a b e0) Int32.toInt64 True := by
  have z0 : (0 : Int32).toInt = 0 := rfl
  have z2 : (2 : Int32).toInt = 2 := rfl
  have z255 : (255 : Int32).toInt = 255 := rfl
  have z4095 : (4095 : Int32).toInt = 4095 := rfl
  have z4096 : (4096 : Int32).toInt = 4096 := rfl
  by_cases l_a : a.toInt < 0
  · refine q_TNbad h 1 0 (by decide) ?_ ?_
    · unfold dz_X5_64_236
      rw [q_lt_T (show a.toInt < (0 : Int32).toInt by omega)]
      rfl
    · unfold dz_M278_64 dz_M203 dz_M202 q_let
      dsimp only
      rw [q_202F (v := a) (lo := 0) (hi := 4095) (Or.inl (by omega))]; rfl
  by_cases u_a : 4095 < a.toInt
  · refine q_TNbad h 1 0 (by decide) ?_ ?_
    · unfold dz_X5_64_236
      rw [q_lt_F (show (0 : Int32).toInt ≤ a.toInt by omega), q_lt_F (show (4096 : Int32).toInt ≤ a.toInt by omega)]
      rfl
    · unfold dz_M278_64 dz_M203 dz_M202 q_let
      dsimp only
      rw [q_202F (v := a) (lo := 0) (hi := 4095) (Or.inr (by omega))]; rfl
  by_cases l_b : b.toInt < 0
  · refine q_TNbad h 2 0 (by decide) ?_ ?_
    · unfold dz_X5_64_236
      rw [q_lt_F (show (0 : Int32).toInt ≤ a.toInt by omega), q_lt_T (show a.toInt < (4096 : Int32).toInt by omega), q_lt_T (show b.toInt < (0 : Int32).toInt by omega)]
      rfl
    · unfold dz_M278_64 dz_M203 dz_M202 q_let
      dsimp only
      rw [q_202T (v := a) (lo := 0) (hi := 4095) (by omega) (by omega), q_202F (v := b) (lo := 0) (hi := 255) (Or.inl (by omega))]; rfl
  by_cases u_b : 255 < b.toInt
  · refine q_TNbad h 2 0 (by decide) ?_ ?_
    · unfold dz_X5_64_236
      rw [q_lt_F (show (0 : Int32).toInt ≤ a.toInt by omega), q_lt_T (show a.toInt < (4096 : Int32).toInt by omega), q_lt_F (show (0 : Int32).toInt ≤ b.toInt by omega), q_lt_T (show (255 : Int32).toInt < b.toInt by omega)]
      rfl
    · unfold dz_M278_64 dz_M203 dz_M202 q_let
      dsimp only
      rw [q_202T (v := a) (lo := 0) (hi := 4095) (by omega) (by omega), q_202F (v := b) (lo := 0) (hi := 255) (Or.inr (by omega))]; rfl
  have hb : q_rgz 0 255 b := ⟨by omega, by omega⟩
  have e8 : b &&& 255 = b := by
    apply Int32.toInt_inj.mp
    rw [q_andI 8 (by decide) hb (by decide) (show (255 : Int32).toInt = 2 ^ 8 - 1 from rfl)]
    show b.toInt % 256 = _
    omega
  have t2 := (q_code (q_vw 32 1 73 x) m hb).2.1
  by_cases l_e : e0.toInt < 0
  · refine q_TNbad h 2 0 (by decide) ?_ ?_
    · unfold dz_X5_64_236
      rw [q_lt_F (show (0 : Int32).toInt ≤ a.toInt by omega), q_lt_T (show a.toInt < (4096 : Int32).toInt by omega), q_lt_F (show (0 : Int32).toInt ≤ b.toInt by omega), q_lt_F (show b.toInt ≤ (255 : Int32).toInt by omega), q_lt_T (show e0.toInt < (0 : Int32).toInt by omega)]
      rfl
    · unfold dz_M278_64 dz_M203 dz_M202 q_let
      dsimp only
      rw [q_202T (v := a) (lo := 0) (hi := 4095) (by omega) (by omega), q_202T (v := b) (lo := 0) (hi := 255) (by omega) (by omega), e8, q_202F (v := e0) (lo := 0) (hi := 255) (Or.inl (by omega)), q_202F (v := e0) (lo := 0) (hi := 4095) (Or.inl (by omega))]
      cases decide (dz_M245 m b = 2) <;> rfl
  by_cases u_e : 4095 < e0.toInt
  · refine q_TNbad h 2 0 (by decide) ?_ ?_
    · unfold dz_X5_64_236
      rw [q_lt_F (show (0 : Int32).toInt ≤ a.toInt by omega), q_lt_T (show a.toInt < (4096 : Int32).toInt by omega), q_lt_F (show (0 : Int32).toInt ≤ b.toInt by omega), q_lt_F (show b.toInt ≤ (255 : Int32).toInt by omega), q_lt_F (show (0 : Int32).toInt ≤ e0.toInt by omega), q_lt_T (show (4095 : Int32).toInt < e0.toInt by omega)]
      rfl
    · unfold dz_M278_64 dz_M203 dz_M202 q_let
      dsimp only
      rw [q_202T (v := a) (lo := 0) (hi := 4095) (by omega) (by omega), q_202T (v := b) (lo := 0) (hi := 255) (by omega) (by omega), e8, q_202F (v := e0) (lo := 0) (hi := 255) (Or.inr (by omega)), q_202F (v := e0) (lo := 0) (hi := 4095) (Or.inr (by omega))]
      cases decide (dz_M245 m b = 2) <;> rfl
  have fin : ∀ y r, dz_N79_64 (q_vw 32 1 73 (dz_X184_98 x 3 a b e0)) 3 a b e0 = some (y, r) → ((dz_M245 m b).toInt = 2 → e0.toInt ≤ 255) → dz_X5_64_236 x a b e0 = some (q_sL (q_pt 32 3 1 73 (dz_X184_98 x 3 a b e0) y) 172 (vp_updL ((q_pt 32 3 1 73 (dz_X184_98 x 3 a b e0) y).2.2 172) 0 r.toInt64), 0, 0) := fun y r e1 hl => by
    unfold dz_X5_64_236 q_let
    dsimp only
    rw [q_lt_F (show (0 : Int32).toInt ≤ a.toInt by omega), q_lt_T (show a.toInt < (4096 : Int32).toInt by omega), q_lt_F (show (0 : Int32).toInt ≤ b.toInt by omega), q_lt_F (show b.toInt ≤ (255 : Int32).toInt by omega), q_lt_F (show (0 : Int32).toInt ≤ e0.toInt by omega), q_lt_F (show e0.toInt ≤ (4095 : Int32).toInt by omega), t2, e1]
    by_cases k2 : (dz_M245 m b).toInt = 2
    · have := hl k2
      rw [q_eq_T (show (dz_M245 m b).toInt = (2 : Int32).toInt by omega), q_lt_F (show e0.toInt ≤ (255 : Int32).toInt by omega)]
      rfl
    · rw [q_eq_F (show ¬ (dz_M245 m b).toInt = (2 : Int32).toInt by omega)]
      rfl
  by_cases w2 : (dz_M245 m b).toInt = 2 ∧ 255 < e0.toInt
  · obtain ⟨k2, k3⟩ := w2
    refine q_TNbad h 2 0 (by decide) ?_ ?_
    · unfold dz_X5_64_236 q_let
      dsimp only
      rw [q_lt_F (show (0 : Int32).toInt ≤ a.toInt by omega), q_lt_T (show a.toInt < (4096 : Int32).toInt by omega), q_lt_F (show (0 : Int32).toInt ≤ b.toInt by omega), q_lt_F (show b.toInt ≤ (255 : Int32).toInt by omega), q_lt_F (show (0 : Int32).toInt ≤ e0.toInt by omega), q_lt_F (show e0.toInt ≤ (4095 : Int32).toInt by omega), t2, q_eq_T (show (dz_M245 m b).toInt = (2 : Int32).toInt by omega), q_lt_T (show (255 : Int32).toInt < e0.toInt by omega)]
      rfl
    · unfold dz_M278_64 dz_M203 dz_M202 q_let
      dsimp only
      rw [q_202T (v := a) (lo := 0) (hi := 4095) (by omega) (by omega), q_202T (v := b) (lo := 0) (hi := 255) (by omega) (by omega), e8, q_eq_T (show (dz_M245 m b).toInt = (2 : Int32).toInt by omega), q_202F (v := e0) (lo := 0) (hi := 255) (Or.inr (by omega))]
      rfl
  have hl : (dz_M245 m b).toInt = 2 → e0.toInt ≤ 255 := fun q => by omega
  obtain ⟨y, m2, r, e1, e2, e3, e4⟩ := q_aAsm (q_ROkp h.1 3 a b e0) hI a b e0 ⟨by omega, by omega⟩ hb ⟨by omega, by omega⟩ hl
  exact q_TNok h hk 3 a b e0 ((q_pt 32 3 1 73 (dz_X184_98 x 3 a b e0) y).2.2 172) r.toInt64 r e3 e4 (fin y r e1 hl) e2 (fun _ => rfl)
end
