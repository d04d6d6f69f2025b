section
variable {x y z m m2 : q_S} {c d w k : Int}
theorem q_tIsP (h : q_LX k m x) (hI : q_Iv c d w m) : ∃ b, dz_X45_64 x = some b ∧ dz_M238_64 m = some (q_mok m, b) := by
  obtain ⟨b, e1, e2⟩ := q_pic (q_ROk h.1) (q_Ivk hI)
  have e1' : dz_N102_65 (q_vw 32 1 73 x) = some b := e1
  have e2' : dz_M224_64 (q_sI m 0 39 0) = some b := e2
  refine ⟨b, ?_, ?_⟩
  · unfold dz_X45_64
    rw [e1']
    cases b <;> rfl
  · unfold dz_M238_64
    rw [e2']
    cases b <;> rfl
theorem q_tJam (h : q_LX k m x) (hI : q_Iv c d w m) : ∃ b, dz_X48_64 x = some b ∧ dz_M241_64 m = some (q_mok m, b) := by
  have e : x.2.1 24 7 = m.1 15 7 := h.1.r6.2.2.2.1
  have hz : q_z1 (m.1 15 7) = true := q_z1_rg (hI.1 15 7)
  refine ⟨decide (m.1 15 7 = 1), ?_, ?_⟩
  · unfold dz_X48_64
    rw [e, hz]; rfl
  · unfold dz_M241_64
    rw [hz]; rfl
theorem q_tSta (h : q_LX k m x) (hI : q_Iv c d w m) : dz_M289_64 m = some (q_mok m, dz_X39_64 x) := by
  obtain ⟨A, X, Y, S, C, Z, I, D, V, N, q, rA, rX, rY, rS⟩ := q_cpu_of h.1 hI
  obtain ⟨s1, -⟩ := q_st258 q hI true
  have s1' : dz_M257_64 m 16 = some (dz_X39_64 x) := s1
  unfold dz_M289_64
  rw [s1']; rfl
theorem q_tCyc (h : q_LX k m x) : dz_M237_64 m = (q_mok m, dz_X44_64 x) := by
  have e : x.2.2 2 8 = m.2.2 0 15 := h.1.r8.2
  show (q_mok m, m.2.2 0 15) = (q_mok m, x.2.2 2 8)
  rw [e]
theorem q_tUnd (h : q_LX k m x) : dz_M239_64 m = (q_mok m, dz_X46_64 x) := by
  have e : x.2.1 24 9 = m.1 14 17 := h.1.r6.2.2.2.2.2.1
  show (q_mok m, m.1 14 17) = (q_mok m, x.2.1 24 9)
  rw [e]
theorem q_tDon (h : q_LX k m x) : dz_M240_64 m = (q_mok m, dz_X47_64 x) := by
  have e : x.2.1 24 10 = m.1 14 19 := h.1.r6.2.2.2.2.2.2.1
  show (q_mok m, m.1 14 19) = (q_mok m, x.2.1 24 10)
  rw [e]
theorem q_tPic (h : q_LX k m x) : dz_M313_64 m = (q_mok m, dz_X67_64 x) := by
  have e := (q_R_t h.1).2.2.1
  rw [Int64.add_zero] at e
  have e' : x.2.2 1 4 = m.2.2 0 16 := e
  show (q_mok m, m.2.2 0 16) = (q_mok m, x.2.2 1 4)
  rw [e']
/-- compare's loops -/
theorem q_lpC {v1 v2 v3 : Int32} (h3 : v3.toInt ≤ 4096) : ∀ (n f g : Nat) (z : q_S) (v4 v5 : Int32), q_eq33 (q_mok m) z → q_RO (q_mok m) (q_vwM x) z → q_Iv c d w z → v5.toInt + n = v3.toInt → 0 ≤ v5.toInt → n ≤ f → n ≤ g → ∃ z' r, dz_X36_22 (f + 1) x v1 v2 v3 v4 v5 = some r ∧ dz_M220_64_49 (g + 1) z v1 v2 v3 v4 v5 = some (z', r) ∧ q_eq33 (q_mok m) z' := by
  intro n
  induction n with
  | zero =>
    intro f g z v4 v5 he h hI hn h0 hf hg
    refine ⟨z, v4, ?_, ?_, he⟩
    · rw [dzs_X36_22]
      dsimp only
      rw [q_lt_F (by omega)]
      rfl
    · rw [dzs_M220_64_49]
      dsimp only
      rw [q_lt_F (by omega)]
      rfl
  | succ n ih =>
    intro f g z v4 v5 he h hI hn h0 hf hg
    obtain ⟨f, rfl⟩ : ∃ f', f = f' + 1 := ⟨f - 1, by omega⟩
    obtain ⟨g, rfl⟩ : ∃ g', g = g' + 1 := ⟨g - 1, by omega⟩
    have e5 : (v5 + 1).toInt = v5.toInt + 1 := q_addI ⟨by omega, by omega⟩ ⟨by decide, by decide⟩
    obtain ⟨u1, z1, a1, a2, a3, a4, a5, a6⟩ := q_rdz h hI ((v1 + v5) &&& 4095) (q_rg_and _ 4095 (by decide) rfl)
    obtain ⟨u2, z2, b1, b2, b3, b4, b5, b6⟩ := q_rdz a4 a5 ((v2 + v5) &&& 4095) (q_rg_and _ 4095 (by decide) rfl)
    have a1' : dz_N90_65 (q_vw 32 1 73 x) ((v1 + v5) &&& 4095) = some u1 := a1
    have b1' : dz_N90_65 (q_vw 32 1 73 x) ((v2 + v5) &&& 4095) = some u2 := b1
    obtain ⟨z', r, c1, c2, c3⟩ := ih f g z2 (cond (decide (u1 = u2)) v4 (v4 + 1)) (v5 + 1) ((he.trans a3).trans b3) b4 b5 (by omega) (by omega) (by omega) (by omega)
    refine ⟨z', r, ?_, ?_, c3⟩
    · rw [dzs_X36_22]
      generalize dz_X36_22 (f + 1) = kk at c1 ⊢
      dsimp only
      rw [q_lt_T (by omega), cond_true, a1', Option.bind_some, b1', Option.bind_some]
      cases e : decide (u1 = u2) with
      | true => rw [e] at c1; exact c1
      | false => rw [e] at c1; exact c1
    · rw [dzs_M220_64_49]
      generalize dz_M220_64_49 (g + 1) = kk at c2 ⊢
      unfold q_let dz_M212
      dsimp only
      rw [q_lt_T (by omega), cond_true, a2, Option.bind_some, b2, Option.bind_some]
      cases e : decide (u1 = u2) with
      | true => rw [e] at c2; rw [cond_true, Int32.add_zero]; exact c2
      | false => rw [e] at c2; exact c2
theorem q_tCmp (h : q_LX k m x) (hI : q_Iv c d w m) (a b e0 : Int32) : q_TN k (dz_X8_64_236 x a b e0) (dz_M220_64 m a b e0) Int32.toInt64 True := by
  have z0 : (0 : Int32).toInt = 0 := rfl
  have z1 : (1 : Int32).toInt = 1 := rfl
  have z4095 : (4095 : Int32).toInt = 4095 := rfl
  have z4096 : (4096 : Int32).toInt = 4096 := rfl
  have z4097 : (4097 : Int32).toInt = 4097 := rfl
  by_cases l_a : a.toInt < 0
  · refine q_TNbad h 1 0 (by decide) ?_ ?_
    · unfold dz_X8_64_236
      rw [q_lt_T (show a.toInt < (0 : Int32).toInt by omega)]
      rfl
    · unfold dz_M220_64 dz_M203 q_let
      dsimp only
      rw [q_202F (v := a) (lo := 0) (hi := 4095) (Or.inl (by omega))]
      rfl
  by_cases u_a : 4095 < a.toInt
  · refine q_TNbad h 1 0 (by decide) ?_ ?_
    · unfold dz_X8_64_236
      rw [q_lt_F (show (0 : Int32).toInt ≤ a.toInt by omega), q_lt_F (show (4096 : Int32).toInt ≤ a.toInt by omega)]
      rfl
    · unfold dz_M220_64 dz_M203 q_let
      dsimp only
      rw [q_202F (v := a) (lo := 0) (hi := 4095) (Or.inr (by omega))]
      rfl
  by_cases l_b : b.toInt < 0
  · refine q_TNbad h 1 0 (by decide) ?_ ?_
    · unfold dz_X8_64_236
      rw [q_lt_F (show (0 : Int32).toInt ≤ a.toInt by omega), q_lt_T (show a.toInt < (4096 : Int32).toInt by omega), q_lt_T (show b.toInt < (0 : Int32).toInt by omega)]
      rfl
    · unfold dz_M220_64 dz_M203 q_let
      dsimp only
      rw [q_202T (v := a) (lo := 0) (hi := 4095) (by omega) (by omega), q_202F (v := b) (lo := 0) (hi := 4095) (Or.inl (by omega))]
      rfl
  by_cases u_b : 4095 < b.toInt
  · refine q_TNbad h 1 0 (by decide) ?_ ?_
    · unfold dz_X8_64_236
      rw [q_lt_F (show (0 : Int32).toInt ≤ a.toInt by omega), q_lt_T (show a.toInt < (4096 : Int32).toInt by omega), q_lt_F (show (0 : Int32).toInt ≤ b.toInt by omega), q_lt_F (show (4096 : Int32).toInt ≤ b.toInt by omega)]
      rfl
    · unfold dz_M220_64 dz_M203 q_let
      dsimp only
      rw [q_202T (v := a) (lo := 0) (hi := 4095) (by omega) (by omega), q_202F (v := b) (lo := 0) (hi := 4095) (Or.inr (by omega))]
      rfl
  by_cases l_e0 : e0.toInt < 1
  · refine q_TNbad h 2 0 (by decide) ?_ ?_
    · unfold dz_X8_64_236
      rw [q_lt_F (show (0 : Int32).toInt ≤ a.toInt by omega), q_lt_T (show a.toInt < (4096 : Int32).toInt by omega), q_lt_F (show (0 : Int32).toInt ≤ b.toInt by omega), q_lt_T (show b.toInt < (4096 : Int32).toInt by omega), q_lt_T (show e0.toInt < (1 : Int32).toInt by omega)]
      rfl
    · unfold dz_M220_64 dz_M203 q_let
      dsimp only
      rw [q_202T (v := a) (lo := 0) (hi := 4095) (by omega) (by omega), q_202T (v := b) (lo := 0) (hi := 4095) (by omega) (by omega), q_202F (v := e0) (lo := 1) (hi := 4096) (Or.inl (by omega))]
      rfl
  by_cases u_e0 : 4096 < e0.toInt
  · refine q_TNbad h 2 0 (by decide) ?_ ?_
    · unfold dz_X8_64_236
      rw [q_lt_F (show (0 : Int32).toInt ≤ a.toInt by omega), q_lt_T (show a.toInt < (4096 : Int32).toInt by omega), q_lt_F (show (0 : Int32).toInt ≤ b.toInt by omega), q_lt_T (show b.toInt < (4096 : Int32).toInt by omega), q_lt_F (show (1 : Int32).toInt ≤ e0.toInt by omega), q_lt_T (show (4096 : Int32).toInt < e0.toInt by omega)]
      rfl
    · unfold dz_M220_64 dz_M203 q_let
      dsimp only
      rw [q_202T (v := a) (lo := 0) (hi := 4095) (by omega) (by omega), q_202T (v := b) (lo := 0) (hi := 4095) (by omega) (by omega), q_202F (v := e0) (lo := 1) (hi := 4096) (Or.inr (by omega))]
      rfl
  have zz : (0 : Int32).toInt = 0 := rfl
  obtain ⟨z', r, c1, c2, c3⟩ := q_lpC (m := m) (x := x) (c := c) (d := d) (w := w) (v1 := a) (v2 := b) (v3 := e0) (by omega) e0.toInt.toNat 4999 4999 (q_mok m) 0 0 (q_eq33_refl _) (q_ROk h.1) (q_Ivk hI) (by omega) (by omega) (by omega) (by omega)
  refine q_TNrd h (x.2.2 172) r.toInt64 r c3 ?_ ?_ (fun _ => rfl)
  · unfold dz_X8_64_236
    rw [q_lt_F (show (0 : Int32).toInt ≤ a.toInt by omega), q_lt_T (show a.toInt < (4096 : Int32).toInt by omega), q_lt_F (show (0 : Int32).toInt ≤ b.toInt by omega), q_lt_T (show b.toInt < (4096 : Int32).toInt by omega), q_lt_F (show (1 : Int32).toInt ≤ e0.toInt by omega), q_lt_F (show e0.toInt ≤ (4096 : Int32).toInt by omega)]
    simp only [cond_true, cond_false]
    have c1' : dz_X36_22 5000 x a b e0 0 0 = some r := c1
    rw [c1']
    rfl
  · unfold dz_M220_64 dz_M203 q_let
    dsimp only
    rw [q_202T (v := a) (lo := 0) (hi := 4095) (by omega) (by omega), q_202T (v := b) (lo := 0) (hi := 4095) (by omega) (by omega), q_202T (v := e0) (lo := 1) (hi := 4096) (by omega) (by omega), q_yM200]
    simp only [cond_true, cond_false]
    exact c2
end
