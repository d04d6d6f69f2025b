section
variable {x y z m m2 : q_S} {c d w k : Int}
theorem q_tLvl (h : q_LX k m x) (hI : q_Iv c d w m) (a : Int32) : q_TN k (some (dz_X17_64_236 x a)) (dz_M296_64 m a) Int32.toInt64 True := by
  have z0 : (0 : Int32).toInt = 0 := rfl
  have z2 : (2 : Int32).toInt = 2 := rfl
  have z3 : (3 : Int32).toInt = 3 := rfl
  by_cases l_a : a.toInt < 0
  · refine q_TNbad h 1 0 (by decide) ?_ ?_
    · unfold dz_X17_64_236
      rw [q_lt_T (show a.toInt < (0 : Int32).toInt by omega)]
      rfl
    · unfold dz_M296_64 q_let
      dsimp only
      rw [q_202F (v := a) (lo := 0) (hi := 2) (Or.inl (by omega))]
      rfl
  by_cases u_a : 2 < a.toInt
  · refine q_TNbad h 1 0 (by decide) ?_ ?_
    · unfold dz_X17_64_236
      rw [q_lt_F (show (0 : Int32).toInt ≤ a.toInt by omega), q_lt_F (show (3 : Int32).toInt ≤ a.toInt by omega)]
      rfl
    · unfold dz_M296_64 q_let
      dsimp only
      rw [q_202F (v := a) (lo := 0) (hi := 2) (Or.inr (by omega))]
      rfl
  have ra : q_rgz 0 2 a := ⟨by omega, by omega⟩
  refine q_TNrd h (x.2.2 172) ((m.1 11) a.toNatClampNeg).toInt64 ((m.1 11) a.toNatClampNeg) (q_eq33_refl _) ?_ ?_ (fun _ => rfl)
  · have e := (h.1.r7.1 a.toNatClampNeg (by show a.toInt.toNat < 3; omega)).2.1
    have e' : x.1 28 a.toNatClampNeg = m.1 11 a.toNatClampNeg := e
    unfold dz_X17_64_236
    rw [q_lt_F (show (0 : Int32).toInt ≤ a.toInt by omega), q_lt_T (show a.toInt < (3 : Int32).toInt by omega), e']
    rfl
  · unfold dz_M296_64 q_let
    dsimp only
    rw [q_202T (v := a) (lo := 0) (hi := 2) (by omega) (by omega), q_yM200, q_in_rg ra (by decide) (by decide)]
    rfl
theorem q_tPix (h : q_LX k m x) (hI : q_Iv c d w m) (a b : Int32) : q_TN k (some (dz_X14_64_236 x a b)) (dz_M293_64 m a b) Int32.toInt64 True := by
  have z0 : (0 : Int32).toInt = 0 := rfl
  have z31 : (31 : Int32).toInt = 31 := rfl
  have z32 : (32 : Int32).toInt = 32 := rfl
  by_cases l_a : a.toInt < 0
  · refine q_TNbad h 1 0 (by decide) ?_ ?_
    · unfold dz_X14_64_236
      rw [q_lt_T (show a.toInt < (0 : Int32).toInt by omega)]
      rfl
    · unfold dz_M293_64 dz_M292_64 q_let
      dsimp only
      rw [q_202F (v := a) (lo := 0) (hi := 31) (Or.inl (by omega))]
      rfl
  by_cases u_a : 31 < a.toInt
  · refine q_TNbad h 1 0 (by decide) ?_ ?_
    · unfold dz_X14_64_236
      rw [q_lt_F (show (0 : Int32).toInt ≤ a.toInt by omega), q_lt_F (show (32 : Int32).toInt ≤ a.toInt by omega)]
      rfl
    · unfold dz_M293_64 dz_M292_64 q_let
      dsimp only
      rw [q_202F (v := a) (lo := 0) (hi := 31) (Or.inr (by omega))]
      rfl
  by_cases l_b : b.toInt < 0
  · refine q_TNbad h 1 0 (by decide) ?_ ?_
    · unfold dz_X14_64_236
      rw [q_lt_F (show (0 : Int32).toInt ≤ a.toInt by omega), q_lt_T (show a.toInt < (32 : Int32).toInt by omega), q_lt_T (show b.toInt < (0 : Int32).toInt by omega)]
      rfl
    · unfold dz_M293_64 dz_M292_64 q_let
      dsimp only
      rw [q_202T (v := a) (lo := 0) (hi := 31) (by omega) (by omega), q_202F (v := b) (lo := 0) (hi := 31) (Or.inl (by omega))]
      rfl
  by_cases u_b : 31 < b.toInt
  · refine q_TNbad h 1 0 (by decide) ?_ ?_
    · unfold dz_X14_64_236
      rw [q_lt_F (show (0 : Int32).toInt ≤ a.toInt by omega), q_lt_T (show a.toInt < (32 : Int32).toInt by omega), q_lt_F (show (0 : Int32).toInt ≤ b.toInt by omega), q_lt_F (show (32 : Int32).toInt ≤ b.toInt by omega)]
      rfl
    · unfold dz_M293_64 dz_M292_64 q_let
      dsimp only
      rw [q_202T (v := a) (lo := 0) (hi := 31) (by omega) (by omega), q_202F (v := b) (lo := 0) (hi := 31) (Or.inr (by omega))]
      rfl
  have e32 : (32 * b).toInt = 32 * b.toInt := q_mulI (n := 32) rfl (by decide) (by decide) ⟨by omega, by omega⟩
  have ei : ((32 * b) + a).toInt = 32 * b.toInt + a.toInt := by rw [q_addI ⟨by omega, by omega⟩ ⟨by omega, by omega⟩, e32]
  have ri : q_rgz 0 1023 ((32 * b) + a) := ⟨by omega, by omega⟩
  have e9 : ((32 * b) + a) &&& 1023 = (32 * b) + a := by
    apply Int32.toInt_inj.mp
    rw [q_andI 10 (by decide) ri (by decide) (show (1023 : Int32).toInt = 2 ^ 10 - 1 from rfl)]
    show _ % 1024 = _
    omega
  refine q_TNrd h (x.2.2 172) ((m.1 5) ((32 * b) + a).toNatClampNeg).toInt64 ((m.1 5) ((32 * b) + a).toNatClampNeg) (q_eq33_refl _) ?_ ?_ (fun _ => rfl)
  · have e := h.1.r8.1.1 ((32 * b) + a).toNatClampNeg (by show ((32 * b) + a).toInt.toNat < 1024; omega)
    have e' : x.1 32 ((32 * b) + a).toNatClampNeg = m.1 5 ((32 * b) + a).toNatClampNeg := e
    unfold dz_X14_64_236
    rw [q_lt_F (show (0 : Int32).toInt ≤ a.toInt by omega), q_lt_T (show a.toInt < (32 : Int32).toInt by omega), q_lt_F (show (0 : Int32).toInt ≤ b.toInt by omega), q_lt_T (show b.toInt < (32 : Int32).toInt by omega), e9, e']
    rfl
  · unfold dz_M293_64 dz_M292_64 q_let
    dsimp only
    rw [q_202T (v := a) (lo := 0) (hi := 31) (by omega) (by omega), q_202T (v := b) (lo := 0) (hi := 31) (by omega) (by omega), q_yM200, q_in_rg ri (by decide) (by decide)]
    rfl
/-- what a read-only call of the model leaves, whatever it answers -/
theorem q_tDif (h : q_LX k m x) (hI : q_Iv c d w m) (a : Int32) : q_TN k (dz_X24_64_236 x a) (dz_M308_64 m a) Int32.toInt64 True := by
  have g : q_rgz 0 3 (m.2.1 0 17) := hI.2.1 0 17
  have g0 := g.1
  have g1 := g.2
  have z0 : (0 : Int32).toInt = 0 := rfl
  have es : ((m.2.1 0 17) - 1).toInt = (m.2.1 0 17).toInt - 1 := q_subI ⟨by omega, by omega⟩ ⟨by decide, by decide⟩
  by_cases l : a.toInt < 0
  · refine q_TNbad h 1 0 (by decide) ?_ ?_
    · unfold dz_X24_64_236
      rw [q_lt_T (by omega)]
      rfl
    · unfold dz_M308_64 q_let
      dsimp only
      rw [q_202F (v := a) (lo := 0) (hi := (m.2.1 0 17) - 1) (Or.inl (by omega))]
      rfl
  by_cases u : (m.2.1 0 17).toInt ≤ a.toInt
  · refine q_TNbad h 1 0 (by decide) ?_ ?_
    · unfold dz_X24_64_236
      rw [q_lt_F (show (0 : Int32).toInt ≤ a.toInt by omega), h.2.1, q_lt_F u]
      rfl
    · unfold dz_M308_64 q_let
      dsimp only
      rw [q_202F (v := a) (lo := 0) (hi := (m.2.1 0 17) - 1) (Or.inr (by omega))]
      rfl
  obtain ⟨r0, er, -⟩ := dzj_M306_64 c d w (q_mok m) (q_Ivk hI) a ⟨by omega, by omega⟩
  have eM : dz_M308_64 m a = some (q_mok m, r0) := by
    unfold dz_M308_64 q_let
    dsimp only
    rw [q_202T (v := a) (by omega) (by omega), q_yM200]
    dsimp only
    rw [cond_true, cond_false, er]
    rfl
  obtain ⟨i6, i7⟩ := q_iNof h.1 (hI.1 15 6) (hI.1 15 7)
  rcases (by omega : a.toInt = 0 ∨ a.toInt = 1 ∨ a.toInt = 2) with e | e | e
  · obtain ⟨s6, s7⟩ := q_iNof (h.2.2.1 (by omega)) (hI.1 30 (8 * 0 + 6)) (hI.1 30 (8 * 0 + 7))
    obtain ⟨v, w1, -⟩ := dzj_W111_66_98 (q_vw 32 1 76 x) ⟨⟨i6, i7⟩, s6, s7⟩
    have ev : v = r0 := q_dfeq (s := q_vw 32 1 76 x) (z := q_mok m) 0 a (by decide) e (fun j hj => h.1.r1.1 j hj) (fun j hj => (h.2.2.1 (by omega)).r1.1 j hj) w1 er
    refine q_TNrd h (x.2.2 172) v.toInt64 r0 (q_eq33_refl _) ?_ eM (fun _ => by rw [ev])
    unfold dz_X24_64_236
    rw [h.2.1, q_lt_F (show (0 : Int32).toInt ≤ a.toInt by omega), q_lt_T (show a.toInt < (m.2.1 0 17).toInt by omega), show a = 0 from Int32.toInt_inj.mp e, q_lt_T (show (0 : Int32).toInt < (m.2.1 0 17).toInt by show (0 : Int) < _; omega)]
    show ((dz_W111_66_98 (q_vw 32 1 76 x)).bind fun r1 => some ((q_sL x 172 (vp_updL (x.2.2 172) 0 r1.toInt64)), 0, 0)) = _
    rw [w1]
    rfl
  · obtain ⟨s6, s7⟩ := q_iNof (h.2.2.2.1 (by omega)) (hI.1 30 (8 * 1 + 6)) (hI.1 30 (8 * 1 + 7))
    obtain ⟨v, w1, -⟩ := dzj_W111_66_98 (q_vw 32 1 108 x) ⟨⟨i6, i7⟩, s6, s7⟩
    have ev : v = r0 := q_dfeq (s := q_vw 32 1 108 x) (z := q_mok m) 1 a (by decide) e (fun j hj => h.1.r1.1 j hj) (fun j hj => (h.2.2.2.1 (by omega)).r1.1 j hj) w1 er
    refine q_TNrd h (x.2.2 172) v.toInt64 r0 (q_eq33_refl _) ?_ eM (fun _ => by rw [ev])
    unfold dz_X24_64_236
    rw [h.2.1, q_lt_F (show (0 : Int32).toInt ≤ a.toInt by omega), q_lt_T (show a.toInt < (m.2.1 0 17).toInt by omega), show a = 1 from Int32.toInt_inj.mp e, q_lt_T (show (1 : Int32).toInt < (m.2.1 0 17).toInt by show (1 : Int) < _; omega)]
    show ((dz_W111_66_98 (q_vw 32 1 108 x)).bind fun r1 => some ((q_sL x 172 (vp_updL (x.2.2 172) 0 r1.toInt64)), 0, 0)) = _
    rw [w1]
    rfl
  · obtain ⟨s6, s7⟩ := q_iNof (h.2.2.2.2.1 (by omega)) (hI.1 30 (8 * 2 + 6)) (hI.1 30 (8 * 2 + 7))
    obtain ⟨v, w1, -⟩ := dzj_W111_66_98 (q_vw 32 1 140 x) ⟨⟨i6, i7⟩, s6, s7⟩
    have ev : v = r0 := q_dfeq (s := q_vw 32 1 140 x) (z := q_mok m) 2 a (by decide) e (fun j hj => h.1.r1.1 j hj) (fun j hj => (h.2.2.2.2.1 (by omega)).r1.1 j hj) w1 er
    refine q_TNrd h (x.2.2 172) v.toInt64 r0 (q_eq33_refl _) ?_ eM (fun _ => by rw [ev])
    unfold dz_X24_64_236
    rw [h.2.1, q_lt_F (show (0 : Int32).toInt ≤ a.toInt by omega), q_lt_T (show a.toInt < (m.2.1 0 17).toInt by omega), show a = 2 from Int32.toInt_inj.mp e, q_lt_T (show (2 : Int32).toInt < (m.2.1 0 17).toInt by show (2 : Int) < _; omega)]
    show ((dz_W111_66_98 (q_vw 32 1 140 x)).bind fun r1 => some ((q_sL x 172 (vp_updL (x.2.2 172) 0 r1.toInt64)), 0, 0)) = _
    rw [w1]
    rfl
theorem q_tRcd (h : q_LX k m x) : q_TN k (some (dz_X25_64_236 x)) (some (dz_M310_64 m)) Int32.toInt64 True := by
  obtain ⟨r1, r2, -⟩ := h.2.2.2.2.2.2.1
  rcases r1 with ⟨q1, q2⟩ | ⟨q1, q2⟩
  · refine q_TNbad h 1 0 (by decide) ?_ ?_
    · unfold dz_X25_64_236
      rw [q1]; rfl
    · unfold dz_M310_64
      rw [q2]; rfl
  · refine q_TNrd h (x.2.2 172) (x.2.1 34 5).toInt64 (x.2.1 34 5) (q_eq33_refl _) ?_ ?_ (fun _ => rfl)
    · unfold dz_X25_64_236
      rw [q1]; rfl
    · unfold dz_M310_64
      rw [q2, q_lt_F (show (0 : Int32).toInt ≤ (x.2.1 34 5).toInt from r2), q_yM200]
      show some (q_mok m, m.2.1 0 34) = _
      rw [q2]
end
