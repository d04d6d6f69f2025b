section
variable {x y z m m2 : q_S} {c d w k : Int}
theorem q_tPul (h : q_LX k m x) (hI : q_Iv c d w m) (hk : k < 512) (a : Int32) : q_TN k (dz_X21_64_236 x a) (dz_M300_64 m a) Int32.toInt64 True := by
  have z0 : (0 : Int32).toInt = 0 := rfl
  have z1 : (1 : Int32).toInt = 1 := rfl
  have z999 : (999 : Int32).toInt = 999 := rfl
  have z1000 : (1000 : Int32).toInt = 1000 := rfl
  by_cases l_a : a.toInt < 1
  · refine q_TNbad h 1 0 (by decide) ?_ ?_
    · unfold dz_X21_64_236
      rw [q_lt_T (show a.toInt < (1 : Int32).toInt by omega)]
      rfl
    · unfold dz_M300_64 q_let
      dsimp only
      rw [q_202F (v := a) (lo := 1) (hi := 999) (Or.inl (by omega))]
      rfl
  by_cases u_a : 999 < a.toInt
  · refine q_TNbad h 1 0 (by decide) ?_ ?_
    · unfold dz_X21_64_236
      rw [q_lt_F (show (1 : Int32).toInt ≤ a.toInt by omega), q_lt_T (show (999 : Int32).toInt < a.toInt by omega)]
      rfl
    · unfold dz_M300_64 q_let
      dsimp only
      rw [q_202F (v := a) (lo := 1) (hi := 999) (Or.inr (by omega))]
      rfl
  have eC : x.2.1 9 1 = m.1 14 13 := h.1.r4.2.1
  have z40 : (40 : Int32).toInt = 40 := rfl
  have c40 : (m.1 14 13).toInt ≤ 40 := (hI.1 14 13).2
  by_cases full : (m.1 14 13).toInt = 40
  · refine q_TNbad h 2 0 (by decide) ?_ ?_
    · unfold dz_X21_64_236
      rw [q_lt_F (show (1 : Int32).toInt ≤ a.toInt by omega), q_lt_F (show a.toInt ≤ (999 : Int32).toInt by omega), eC, q_lt_F (show (40 : Int32).toInt ≤ (m.1 14 13).toInt by omega)]
      rfl
    · unfold dz_M300_64 q_let
      dsimp only
      rw [q_202T (v := a) (lo := 1) (hi := 999) (by omega) (by omega), q_eq_T (show (m.1 14 13).toInt = (40 : Int32).toInt by omega)]
      rfl
  obtain ⟨y, m2, r, e1, e2, e3, e4⟩ := q_aPul (q_ROkp h.1 11 a 0 0) hI a 0 0 ⟨by omega, by omega⟩ (by omega)
  refine q_TNok h hk 11 a 0 0 ((q_pt 32 3 1 73 (dz_X184_98 x 11 a 0 0) y).2.2 172) r.toInt64 r e3 e4 ?_ e2 (fun _ => rfl)
  unfold dz_X21_64_236 q_let
  rw [q_lt_F (show (1 : Int32).toInt ≤ a.toInt by omega), q_lt_F (show a.toInt ≤ (999 : Int32).toInt by omega), eC, q_lt_T (show (m.1 14 13).toInt < (40 : Int32).toInt by omega)]
  dsimp only
  simp only [cond_true, cond_false]
  rw [e1]
  rfl
theorem q_tKeyf (h : q_LX k m x) (hI : q_Iv c d w m) (hk : k < 512) (a b : Int32) : q_TN k (dz_X18_64_f_236 x a b) (dz_M297_64 m a b 0) q_kb True := by
  have z0 : (0 : Int32).toInt = 0 := rfl
  have z3 : (3 : Int32).toInt = 3 := rfl
  have z4 : (4 : Int32).toInt = 4 := rfl
  by_cases l_a : a.toInt < 0
  · refine q_TNbad h 1 false (by decide) ?_ ?_
    · unfold dz_X18_64_f_236
      rw [q_lt_T (show a.toInt < (0 : Int32).toInt by omega)]
      rfl
    · unfold dz_M297_64 q_let
      dsimp only
      rw [q_202F (v := a) (lo := 0) (hi := 3) (Or.inl (by omega))]
      rfl
  by_cases u_a : 3 < a.toInt
  · refine q_TNbad h 1 false (by decide) ?_ ?_
    · unfold dz_X18_64_f_236
      rw [q_lt_F (show (0 : Int32).toInt ≤ a.toInt by omega), q_lt_F (show (4 : Int32).toInt ≤ a.toInt by omega)]
      rfl
    · unfold dz_M297_64 q_let
      dsimp only
      rw [q_202F (v := a) (lo := 0) (hi := 3) (Or.inr (by omega))]
      rfl
  by_cases l_b : b.toInt < 0
  · refine q_TNbad h 1 false (by decide) ?_ ?_
    · unfold dz_X18_64_f_236
      rw [q_lt_F (show (0 : Int32).toInt ≤ a.toInt by omega), q_lt_T (show a.toInt < (4 : Int32).toInt by omega), q_lt_T (show b.toInt < (0 : Int32).toInt by omega)]
      rfl
    · unfold dz_M297_64 q_let
      dsimp only
      rw [q_202T (v := a) (lo := 0) (hi := 3) (by omega) (by omega), q_202F (v := b) (lo := 0) (hi := 3) (Or.inl (by omega))]
      rfl
  by_cases u_b : 3 < b.toInt
  · refine q_TNbad h 1 false (by decide) ?_ ?_
    · unfold dz_X18_64_f_236
      rw [q_lt_F (show (0 : Int32).toInt ≤ a.toInt by omega), q_lt_T (show a.toInt < (4 : Int32).toInt by omega), q_lt_F (show (0 : Int32).toInt ≤ b.toInt by omega), q_lt_F (show (4 : Int32).toInt ≤ b.toInt by omega)]
      rfl
    · unfold dz_M297_64 q_let
      dsimp only
      rw [q_202T (v := a) (lo := 0) (hi := 3) (by omega) (by omega), q_202F (v := b) (lo := 0) (hi := 3) (Or.inr (by omega))]
      rfl
  obtain ⟨y, m2, r, e1, e2, e3, e4⟩ := q_aKey (q_ROkp h.1 9 a b 0) hI a b false ⟨by omega, by omega⟩ ⟨by omega, by omega⟩
  refine q_TNok h hk 9 a b 0 ((q_pt 32 3 1 73 (dz_X184_98 x 9 a b 0) y).2.2 172) (q_kb r) r e3 e4 ?_ e2 (fun _ => rfl)
  unfold dz_X18_64_f_236 q_let
  rw [q_lt_F (show (0 : Int32).toInt ≤ a.toInt by omega), q_lt_T (show a.toInt < (4 : Int32).toInt by omega), q_lt_F (show (0 : Int32).toInt ≤ b.toInt by omega), q_lt_T (show b.toInt < (4 : Int32).toInt by omega)]
  dsimp only
  simp only [cond_true, cond_false]
  have e1' : dz_N79_64 (q_vw 32 1 73 (dz_X184_98 x 9 a b 0)) 9 a b 0 = some (y, q_b r) := e1
  rw [e1']
  cases r <;> rfl
theorem q_tKeyt (h : q_LX k m x) (hI : q_Iv c d w m) (hk : k < 512) (a b : Int32) : q_TN k (dz_X18_64_t_236 x a b) (dz_M297_64 m a b 1) q_kb True := by
  have z0 : (0 : Int32).toInt = 0 := rfl
  have z3 : (3 : Int32).toInt = 3 := rfl
  have z4 : (4 : Int32).toInt = 4 := rfl
  by_cases l_a : a.toInt < 0
  · refine q_TNbad h 1 false (by decide) ?_ ?_
    · unfold dz_X18_64_t_236
      rw [q_lt_T (show a.toInt < (0 : Int32).toInt by omega)]
      rfl
    · unfold dz_M297_64 q_let
      dsimp only
      rw [q_202F (v := a) (lo := 0) (hi := 3) (Or.inl (by omega))]
      rfl
  by_cases u_a : 3 < a.toInt
  · refine q_TNbad h 1 false (by decide) ?_ ?_
    · unfold dz_X18_64_t_236
      rw [q_lt_F (show (0 : Int32).toInt ≤ a.toInt by omega), q_lt_F (show (4 : Int32).toInt ≤ a.toInt by omega)]
      rfl
    · unfold dz_M297_64 q_let
      dsimp only
      rw [q_202F (v := a) (lo := 0) (hi := 3) (Or.inr (by omega))]
      rfl
  by_cases l_b : b.toInt < 0
  · refine q_TNbad h 1 false (by decide) ?_ ?_
    · unfold dz_X18_64_t_236
      rw [q_lt_F (show (0 : Int32).toInt ≤ a.toInt by omega), q_lt_T (show a.toInt < (4 : Int32).toInt by omega), q_lt_T (show b.toInt < (0 : Int32).toInt by omega)]
      rfl
    · unfold dz_M297_64 q_let
      dsimp only
      rw [q_202T (v := a) (lo := 0) (hi := 3) (by omega) (by omega), q_202F (v := b) (lo := 0) (hi := 3) (Or.inl (by omega))]
      rfl
  by_cases u_b : 3 < b.toInt
  · refine q_TNbad h 1 false (by decide) ?_ ?_
    · unfold dz_X18_64_t_236
      rw [q_lt_F (show (0 : Int32).toInt ≤ a.toInt by omega), q_lt_T (show a.toInt < (4 : Int32).toInt by omega), q_lt_F (show (0 : Int32).toInt ≤ b.toInt by omega), q_lt_F (show (4 : Int32).toInt ≤ b.toInt by omega)]
      rfl
    · unfold dz_M297_64 q_let
      dsimp only
      rw [q_202T (v := a) (lo := 0) (hi := 3) (by omega) (by omega), q_202F (v := b) (lo := 0) (hi := 3) (Or.inr (by omega))]
      rfl
  obtain ⟨y, m2, r, e1, e2, e3, e4⟩ := q_aKey (q_ROkp h.1 9 a b 1) hI a b true ⟨by omega, by omega⟩ ⟨by omega, by omega⟩
  refine q_TNok h hk 9 a b 1 ((q_pt 32 3 1 73 (dz_X184_98 x 9 a b 1) y).2.2 172) (q_kb r) r e3 e4 ?_ e2 (fun _ => rfl)
  unfold dz_X18_64_t_236 q_let
  rw [q_lt_F (show (0 : Int32).toInt ≤ a.toInt by omega), q_lt_T (show a.toInt < (4 : Int32).toInt by omega), q_lt_F (show (0 : Int32).toInt ≤ b.toInt by omega), q_lt_T (show b.toInt < (4 : Int32).toInt by omega)]
  dsimp only
  simp only [cond_true, cond_false]
  have e1' : dz_N79_64 (q_vw 32 1 73 (dz_X184_98 x 9 a b 1)) 9 a b 1 = some (y, q_b r) := e1
  rw [e1']
  cases r <;> rfl
theorem q_tStep (h : q_LX k m x) (hI : q_Iv c d w m) (hk : k < 512) (hc : c + 1000 ≤ 1000000) (hd : d + 1000 ≤ 1000000) : q_TN k (dz_X12_64_236 x) (dz_M236_64 m) Int32.toInt64 True := by
  have eJ : x.2.1 24 7 = m.1 15 7 := h.1.r6.2.2.2.1
  by_cases J : x.2.1 24 7 = 0
  · have J' : (q_vw 32 1 73 (dz_X184_98 x 8 0 0 0)).2.1 23 7 = 0 := by
      have e := (q_ROkp h.1 8 0 0 0).r6.2.2.2.1
      rw [e, ← eJ]
      exact J
    obtain ⟨y, m2, r, e1, e2, e3, e4⟩ := q_aStep (q_ROkp h.1 8 0 0 0) hI 0 0 0 J' hc hd
    refine q_TNok h hk 8 0 0 0 ((q_pt 32 3 1 73 (dz_X184_98 x 8 0 0 0) y).2.2 172) r.toInt64 r e3 e4 ?_ e2 (fun _ => rfl)
    unfold dz_X12_64_236 q_let
    rw [decide_eq_true J]
    dsimp only
    simp only [cond_true]
    rw [e1]
    rfl
  · refine q_TNbad h 1 0 (by decide) ?_ ?_
    · unfold dz_X12_64_236
      rw [decide_eq_false J]
      rfl
    · unfold dz_M236_64
      rw [← eJ, decide_eq_false J]
      rfl
theorem q_tRes (h : q_LX k m x) (hI : q_Iv c d w m) (hk : k < 512) : ∃ r0 r1, dz_X40_64 x = some r0 ∧ dz_M290_64 m = some r1 ∧ q_LX (k + 1) r1.1 r0.1 ∧ r1.1.2.1 0 39 = 0 ∧ r0.2 = r1.2 := by
  obtain ⟨y, m2, r, e1, e2, e3, e4⟩ := q_aRes (q_ROkp h.1 5 0 0 0) hI 0 0 0
  refine ⟨(q_pt 32 3 1 73 (dz_X184_98 x 5 0 0 0) y, r), (m2, r), ?_, e2, q_LXact h hk 5 0 0 0 ((q_pt 32 3 1 73 (dz_X184_98 x 5 0 0 0) y).2.2 172) e3 e4, e4.2.2.2.2.2, rfl⟩
  unfold dz_X40_64 q_let
  dsimp only
  rw [e1]
  rfl
theorem q_tFrz (h : q_LX k m x) (hI : q_Iv c d w m) (hk : k < 512) : ∃ r0 r1, dz_X41_64 x = some r0 ∧ dz_M291_64 m = r1 ∧ q_LX (k + 1) r1.1 r0.1 ∧ r1.1.2.1 0 39 = 0 ∧ r0.2 = r1.2 := by
  obtain ⟨y, m2, r, e1, e2, e3, e4⟩ := q_aFrz (q_ROkp h.1 6 0 0 0) hI 0 0 0
  refine ⟨(q_pt 32 3 1 73 (dz_X184_98 x 6 0 0 0) y, r), (m2, r), ?_, e2, q_LXact h hk 6 0 0 0 ((q_pt 32 3 1 73 (dz_X184_98 x 6 0 0 0) y).2.2 172) e3 e4, e4.2.2.2.2.2, rfl⟩
  unfold dz_X41_64 q_let
  dsimp only
  rw [e1]
  rfl
theorem q_tRew (h : q_LX k m x) (hI : q_Iv c d w m) (hk : k < 512) : ∃ r0 r1, dz_X58_64 x = some r0 ∧ dz_M301_64 m = r1 ∧ q_LX (k + 1) r1.1 r0.1 ∧ r1.1.2.1 0 39 = 0 ∧ r0.2 = r1.2 := by
  obtain ⟨y, m2, r, e1, e2, e3, e4⟩ := q_aRew (q_ROkp h.1 12 0 0 0) hI 0 0 0
  refine ⟨(q_pt 32 3 1 73 (dz_X184_98 x 12 0 0 0) y, r), (m2, r), ?_, e2, q_LXact h hk 12 0 0 0 ((q_pt 32 3 1 73 (dz_X184_98 x 12 0 0 0) y).2.2 172) e3 e4, e4.2.2.2.2.2, rfl⟩
  unfold dz_X58_64 q_let
  dsimp only
  rw [e1]
  rfl
end
