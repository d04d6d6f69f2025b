section
variable {x y z m m2 : q_S} {c d w k : Int}
theorem q_LX33 (h : q_LX k m x) (e : q_eq33 m z) : q_LX k z x := by
  obtain ⟨h1, h2, h3, h4, h5, h6, h7, h8⟩ := h
  have t := q_R_t h1
  have h1' : q_RO z (q_vwM x) z := q_RO_own (q_R_33 h1 e)
  obtain ⟨e1, e2⟩ := e
  have eW : q_svW z = q_svW m := by
    unfold q_svW
    rw [e1 16 rfl, e1 17 rfl, e1 18 rfl, e1 19 rfl, e1 20 rfl, e1 21 rfl, e1 22 rfl, e1 23 rfl, e1 24 rfl, e1 25 rfl, e1 26 rfl, e1 27 rfl, e1 28 rfl, e1 29 rfl, e1 30 rfl, e1 31 rfl, e1 32 rfl]
  unfold q_LX q_RK at *
  rw [eW, e2, e1 32 rfl]
  exact ⟨h1', h2, h3, h4, h5, h6, h7, h8⟩
/-- a call that reads -/
theorem q_TNrd {T : Type} {cv : T → Int64} {ex : Prop} {ox : Option (q_S × Int32 × Nat)} {om : Option (q_S × T)} (h : q_LX k m x) (f : Nat → Int64) (v : Int64) (t : T) (e : q_eq33 (q_mok m) z) (e1 : ox = some (q_sL x 172 (vp_updL f 0 v), 0, 0)) (e2 : om = some (z, t)) (e3 : ex → v = cv t) : q_TN k ox om cv ex :=
  ⟨_, _, e1, e2, q_LX33 (q_LXbad h 0) e, Nat.zero_le _, by show z.2.1 0 39 = 0; rw [e.2]; rfl, fun q _ => by
    show vp_updL f 0 v 0 = cv t
    rw [q_upL1 _ _ _ _ rfl, e3 q]⟩
theorem q_tPeek (h : q_LX k m x) (hI : q_Iv c d w m) (a : Int32) : q_TN k (dz_X3_64_236 x a) (dz_M218_64 m a) Int32.toInt64 True := by
  have z0 : (0 : Int32).toInt = 0 := rfl
  have z4095 : (4095 : Int32).toInt = 4095 := rfl
  have z4096 : (4096 : Int32).toInt = 4096 := rfl
  by_cases l_a : a.toInt < 0
  · refine q_TNbad h 1 0 (by decide) ?_ ?_
    · unfold dz_X3_64_236
      rw [q_lt_T (show a.toInt < (0 : Int32).toInt by omega)]
      rfl
    · unfold dz_M218_64 dz_M203 q_let
      dsimp only
      rw [q_202F (v := a) (lo := 0) (hi := 4095) (Or.inl (by omega))]
      rfl
  by_cases u_a : 4095 < a.toInt
  · refine q_TNbad h 1 0 (by decide) ?_ ?_
    · unfold dz_X3_64_236
      rw [q_lt_F (show (0 : Int32).toInt ≤ a.toInt by omega), q_lt_F (show (4096 : Int32).toInt ≤ a.toInt by omega)]
      rfl
    · unfold dz_M218_64 dz_M203 q_let
      dsimp only
      rw [q_202F (v := a) (lo := 0) (hi := 4095) (Or.inr (by omega))]
      rfl
  obtain ⟨v, m1, e1, e2, e3, e4, e5, e6⟩ := q_rdz (q_ROk h.1) (q_Ivk hI) a ⟨by omega, by omega⟩
  refine q_TNrd h (x.2.2 172) v.toInt64 v e3 ?_ ?_ (fun _ => rfl)
  · have e1' : dz_N90_65 (q_vw 32 1 73 x) a = some v := e1
    unfold dz_X3_64_236
    rw [q_lt_F (show (0 : Int32).toInt ≤ a.toInt by omega), q_lt_T (show a.toInt < (4096 : Int32).toInt by omega), e1']
    rfl
  · unfold dz_M218_64 dz_M203 q_let
    dsimp only
    rw [q_202T (v := a) (lo := 0) (hi := 4095) (by omega) (by omega), q_yM200]
    show ((dz_M213_64 (q_mok m) a).bind fun r8 => some (r8.1, r8.2)) = _
    rw [e2]; rfl
theorem q_tRam (h : q_LX k m x) (hI : q_Iv c d w m) (a : Int32) : q_TN k (some (dz_X4_64_236 x a)) (dz_M219_64 m a) Int32.toInt64 True := by
  have z0 : (0 : Int32).toInt = 0 := rfl
  have z4095 : (4095 : Int32).toInt = 4095 := rfl
  have z4096 : (4096 : Int32).toInt = 4096 := rfl
  by_cases l_a : a.toInt < 0
  · refine q_TNbad h 1 0 (by decide) ?_ ?_
    · unfold dz_X4_64_236
      rw [q_lt_T (show a.toInt < (0 : Int32).toInt by omega)]
      rfl
    · unfold dz_M219_64 dz_M203 q_let
      dsimp only
      rw [q_202F (v := a) (lo := 0) (hi := 4095) (Or.inl (by omega))]
      rfl
  by_cases u_a : 4095 < a.toInt
  · refine q_TNbad h 1 0 (by decide) ?_ ?_
    · unfold dz_X4_64_236
      rw [q_lt_F (show (0 : Int32).toInt ≤ a.toInt by omega), q_lt_F (show (4096 : Int32).toInt ≤ a.toInt by omega)]
      rfl
    · unfold dz_M219_64 dz_M203 q_let
      dsimp only
      rw [q_202F (v := a) (lo := 0) (hi := 4095) (Or.inr (by omega))]
      rfl
  have ra : q_rgz 0 4095 a := ⟨by omega, by omega⟩
  refine q_TNrd h (x.2.2 172) ((m.1 1) a.toNatClampNeg).toInt64 ((m.1 1) a.toNatClampNeg) (q_eq33_refl _) ?_ ?_ (fun _ => rfl)
  · have e := h.1.r1.1 a.toNatClampNeg (by show a.toInt.toNat < 4096; omega)
    have e' : x.1 4 a.toNatClampNeg = m.1 1 a.toNatClampNeg := e
    unfold dz_X4_64_236
    rw [q_lt_F (show (0 : Int32).toInt ≤ a.toInt by omega), q_lt_T (show a.toInt < (4096 : Int32).toInt by omega), q_a12 ra, e']
    rfl
  · unfold dz_M219_64 dz_M203 q_let
    dsimp only
    rw [q_202T (v := a) (lo := 0) (hi := 4095) (by omega) (by omega), q_yM200, q_in_rg ra (by decide) (by decide)]
    rfl
theorem q_tSmp (h : q_LX k m x) (hI : q_Iv c d w m) (a : Int32) : q_TN k (some (dz_X16_64_236 x a)) (dz_M295_64 m a) Int32.toInt64 True := by
  have z0 : (0 : Int32).toInt = 0 := rfl
  have z39 : (39 : Int32).toInt = 39 := rfl
  have z40 : (40 : Int32).toInt = 40 := rfl
  by_cases l_a : a.toInt < 0
  · refine q_TNbad h 1 0 (by decide) ?_ ?_
    · unfold dz_X16_64_236
      rw [q_lt_T (show a.toInt < (0 : Int32).toInt by omega)]
      rfl
    · unfold dz_M295_64 q_let
      dsimp only
      rw [q_202F (v := a) (lo := 0) (hi := 39) (Or.inl (by omega))]
      rfl
  by_cases u_a : 39 < a.toInt
  · refine q_TNbad h 1 0 (by decide) ?_ ?_
    · unfold dz_X16_64_236
      rw [q_lt_F (show (0 : Int32).toInt ≤ a.toInt by omega), q_lt_F (show (40 : Int32).toInt ≤ a.toInt by omega)]
      rfl
    · unfold dz_M295_64 q_let
      dsimp only
      rw [q_202F (v := a) (lo := 0) (hi := 39) (Or.inr (by omega))]
      rfl
  have ra : q_rgz 0 39 a := ⟨by omega, by omega⟩
  refine q_TNrd h (x.2.2 172) ((m.1 6) a.toNatClampNeg).toInt64 ((m.1 6) a.toNatClampNeg) (q_eq33_refl _) ?_ ?_ (fun _ => rfl)
  · have e := h.1.r7.2 a.toNatClampNeg (by show a.toInt.toNat < 40; omega)
    have e' : x.1 31 a.toNatClampNeg = m.1 6 a.toNatClampNeg := e
    unfold dz_X16_64_236
    rw [q_lt_F (show (0 : Int32).toInt ≤ a.toInt by omega), q_lt_T (show a.toInt < (40 : Int32).toInt by omega), e']
    rfl
  · unfold dz_M295_64 q_let
    dsimp only
    rw [q_202T (v := a) (lo := 0) (hi := 39) (by omega) (by omega), q_yM200, q_in_rg ra (by decide) (by decide)]
    rfl
end
