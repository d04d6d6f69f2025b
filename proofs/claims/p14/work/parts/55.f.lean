section
variable {TT : (Nat → Int32) → Int32 → (Nat → Int32) → Int32 → Int64 → Int64 → List Int32 → List (Nat → Int32) → (Nat → Int64) → Prop} {x y z m m2 : q_S} {c d w k : Int}
theorem q_nsK (s y : q_S) (a1 a2 r : Int32) (h : (q_let (dz_N119_96 s a1 a2) fun r3 => (dz_N122_96 s a1 a2).bind fun r4 => (dz_N123_96 s r3 r4).bind fun r5 => some (s, r5)) = some (y, r)) : y = s := by
  unfold q_let at h
  dsimp only at h
  cases e1 : dz_N122_96 s a1 a2 with
  | none => rw [e1] at h; cases h
  | some r4 =>
    rw [e1, Option.bind_some] at h
    cases e2 : dz_N123_96 s (dz_N119_96 s a1 a2) r4 with
    | none => rw [e2] at h; cases h
    | some r5 => rw [e2] at h; cases h; rfl
theorem q_nsT77 (s y : q_S) (p a1 a2 r : Int32) (h : ((dz_N129_77_96 s p).bind fun r2 => q_let (dz_N119_96 r2 a1 a2) fun r3 => (dz_N122_96 r2 a1 a2).bind fun r4 => (dz_N123_96 r2 r3 r4).bind fun r5 => some (r2, r5)) = some (y, r)) : q_NS s y := by
  cases e : dz_N129_77_96 s p with
  | none => rw [e] at h; cases h
  | some r2 =>
    rw [e, Option.bind_some] at h
    rw [q_nsK _ _ _ _ _ h]
    have e' : dz_N129_77_96_10 5000 (dz_N110_96_78 s) p 0 = some r2 := e
    exact ((q_NS_A 33 _ rfl).trans (q_NS_A 34 _ rfl)).trans (q_ns129_77 _ _ _ _ _ e')
theorem q_nsT82 (s y : q_S) (p a1 a2 r : Int32) (h : ((dz_N129_82_96 s p).bind fun r2 => q_let (dz_N119_96 r2 a1 a2) fun r3 => (dz_N122_96 r2 a1 a2).bind fun r4 => (dz_N123_96 r2 r3 r4).bind fun r5 => some (r2, r5)) = some (y, r)) : q_NS s y := by
  cases e : dz_N129_82_96 s p with
  | none => rw [e] at h; cases h
  | some r2 =>
    rw [e, Option.bind_some] at h
    rw [q_nsK _ _ _ _ _ h]
    have e' : dz_N129_82_96_10 5000 (dz_N110_96_83 s) p 0 = some r2 := e
    exact ((q_NS_A 33 _ rfl).trans (q_NS_A 34 _ rfl)).trans (q_ns129_82 _ _ _ _ _ e')
theorem q_ns108 (s y : q_S) (a1 a2 r : Int32) (h : dz_N108_65_96 s a1 a2 = some (y, r)) : q_NS s y := by
  unfold dz_N108_65_96 at h
  cases e1 : decide (lg_cmp (((s.2.2 1 8) / 960) - ((s.2.2 1 8) / 960) / 2 * 2) 0 = 0) with
  | true =>
    rw [e1, cond_true] at h
    cases e2 : decide ((24 * (a2 + 4)) + ((a1 / 2) + 4) < s.2.1 13 3) with
    | true => rw [e2, cond_true] at h; exact q_nsT77 _ _ _ _ _ _ h
    | false =>
      rw [e2, cond_false] at h
      cases e3 : decide ((24 * (a2 + 4)) + ((a1 / 2) + 4) < s.2.1 18 3) with
      | true => rw [e3, cond_true] at h; exact q_nsT82 _ _ _ _ _ _ h
      | false => rw [e3, cond_false] at h; cases h; exact q_NS_r s
  | false =>
    rw [e1, cond_false] at h
    cases e2 : decide ((24 * (a2 + 4)) + ((a1 / 2) + 4) < s.2.1 18 3) with
    | true => rw [e2, cond_true] at h; exact q_nsT82 _ _ _ _ _ _ h
    | false =>
      rw [e2, cond_false] at h
      cases e3 : decide ((24 * (a2 + 4)) + ((a1 / 2) + 4) < s.2.1 13 3) with
      | true => rw [e3, cond_true] at h; exact q_nsT77 _ _ _ _ _ _ h
      | false => rw [e3, cond_false] at h; cases h; exact q_NS_r s
theorem q_R_NS (h : q_R TT x m) (e : q_NS x y) : q_R TT y m := by
  obtain ⟨e2, e1⟩ := e
  unfold q_R q_R1 q_R2 q_R3 q_R4 q_R5 q_R6 q_R7 q_R8 at *
  rw [e2]
  simp only [e1 3 rfl, e1 4 rfl, e1 5 rfl, e1 6 rfl, e1 7 rfl, e1 9 rfl, e1 11 rfl, e1 12 rfl, e1 24 rfl, e1 26 rfl, e1 27 rfl, e1 28 rfl, e1 29 rfl, e1 30 rfl, e1 31 rfl]
  exact h
theorem q_tAgn (h : q_LX k m x) (hI : q_Iv c d w m) (a b : Int32) : q_TN k (dz_X15_64_236 x a b) (dz_M294_64 m a b) Int32.toInt64 False := by
  have z0 : (0 : Int32).toInt = 0 := rfl
  have z31 : (31 : Int32).toInt = 31 := rfl
  have z32 : (32 : Int32).toInt = 32 := rfl
  by_cases l_a : a.toInt < 0
  · refine q_TNbad h 1 0 (by decide) ?_ ?_
    · unfold dz_X15_64_236
      rw [q_lt_T (show a.toInt < (0 : Int32).toInt by omega)]
      rfl
    · unfold dz_M294_64 dz_M292_64 q_let
      dsimp only
      rw [q_202F (v := a) (lo := 0) (hi := 31) (Or.inl (by omega))]
      rfl
  by_cases u_a : 31 < a.toInt
  · refine q_TNbad h 1 0 (by decide) ?_ ?_
    · unfold dz_X15_64_236
      rw [q_lt_F (show (0 : Int32).toInt ≤ a.toInt by omega), q_lt_F (show (32 : Int32).toInt ≤ a.toInt by omega)]
      rfl
    · unfold dz_M294_64 dz_M292_64 q_let
      dsimp only
      rw [q_202F (v := a) (lo := 0) (hi := 31) (Or.inr (by omega))]
      rfl
  by_cases l_b : b.toInt < 0
  · refine q_TNbad h 1 0 (by decide) ?_ ?_
    · unfold dz_X15_64_236
      rw [q_lt_F (show (0 : Int32).toInt ≤ a.toInt by omega), q_lt_T (show a.toInt < (32 : Int32).toInt by omega), q_lt_T (show b.toInt < (0 : Int32).toInt by omega)]
      rfl
    · unfold dz_M294_64 dz_M292_64 q_let
      dsimp only
      rw [q_202T (v := a) (lo := 0) (hi := 31) (by omega) (by omega), q_202F (v := b) (lo := 0) (hi := 31) (Or.inl (by omega))]
      rfl
  by_cases u_b : 31 < b.toInt
  · refine q_TNbad h 1 0 (by decide) ?_ ?_
    · unfold dz_X15_64_236
      rw [q_lt_F (show (0 : Int32).toInt ≤ a.toInt by omega), q_lt_T (show a.toInt < (32 : Int32).toInt by omega), q_lt_F (show (0 : Int32).toInt ≤ b.toInt by omega), q_lt_F (show (32 : Int32).toInt ≤ b.toInt by omega)]
      rfl
    · unfold dz_M294_64 dz_M292_64 q_let
      dsimp only
      rw [q_202T (v := a) (lo := 0) (hi := 31) (by omega) (by omega), q_202F (v := b) (lo := 0) (hi := 31) (Or.inr (by omega))]
      rfl
  have e32 : (32 * b).toInt = 32 * b.toInt := q_mulI (n := 32) rfl (by decide) (by decide) ⟨by omega, by omega⟩
  have ei : ((32 * b) + a).toInt = 32 * b.toInt + a.toInt := by rw [q_addI ⟨by omega, by omega⟩ ⟨by omega, by omega⟩, e32]
  have ri : q_rgz 0 1023 ((32 * b) + a) := ⟨by omega, by omega⟩
  have hN : q_iN (q_vw 32 1 73 x) := q_iNof h.1 (hI.1 15 6) (hI.1 15 7)
  obtain ⟨⟨y, r⟩, e, -⟩ := dzj_N108_65_96 (q_vw 32 1 73 x) hN a b
  have hy : q_RO m y m := q_R_NS h.1 (q_ns108 _ _ _ _ _ e)
  have LX : q_LX k m (q_sL (q_pt 32 3 1 73 x y) 172 (vp_updL ((q_pt 32 3 1 73 x y).2.2 172) 0 r.toInt64)) := ⟨hy, h.2⟩
  have eM : dz_M294_64 m a b = some (q_mok m, m.1 5 ((32 * b) + a).toNatClampNeg) := by
    unfold dz_M294_64 dz_M292_64 q_let
    dsimp only
    rw [q_202T (v := a) (lo := 0) (hi := 31) (by omega) (by omega), q_202T (v := b) (lo := 0) (hi := 31) (by omega) (by omega), q_yM200, q_in_rg ri (by decide) (by decide)]
    rfl
  refine ⟨(q_sL (q_pt 32 3 1 73 x y) 172 (vp_updL ((q_pt 32 3 1 73 x y).2.2 172) 0 r.toInt64), 0, 0), _, ?_, eM, q_LXbad LX 0, Nat.zero_le _, rfl, fun q => q.elim⟩
  unfold dz_X15_64_236
  rw [q_lt_F (show (0 : Int32).toInt ≤ a.toInt by omega), q_lt_T (show a.toInt < (32 : Int32).toInt by omega), q_lt_F (show (0 : Int32).toInt ≤ b.toInt by omega), q_lt_T (show b.toInt < (32 : Int32).toInt by omega), e]
  rfl
end
