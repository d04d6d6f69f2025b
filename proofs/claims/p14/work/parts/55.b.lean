section
variable {x y z m m2 : q_S} {c d w k : Int}
theorem q_tGet (h : q_LX k m x) (hI : q_Iv c d w m) (a : Int32) : q_TN k (some (dz_X9_64_236 x a)) (dz_M287_64 m a) Int32.toInt64 (a.toInt = 4 → x.2.1 24 7 = 0) := by
  have z0 : (0 : Int32).toInt = 0 := rfl
  have z4 : (4 : Int32).toInt = 4 := rfl
  have z5 : (5 : Int32).toInt = 5 := rfl
  by_cases l_a : a.toInt < 0
  · refine q_TNbad h 1 0 (by decide) ?_ ?_
    · unfold dz_X9_64_236
      rw [q_lt_T (show a.toInt < (0 : Int32).toInt by omega)]
      rfl
    · unfold dz_M287_64 q_let
      dsimp only
      rw [q_202F (v := a) (lo := 0) (hi := 4) (Or.inl (by omega))]
      rfl
  by_cases u_a : 4 < a.toInt
  · refine q_TNbad h 1 0 (by decide) ?_ ?_
    · unfold dz_X9_64_236
      rw [q_lt_F (show (0 : Int32).toInt ≤ a.toInt by omega), q_lt_F (show (5 : Int32).toInt ≤ a.toInt by omega)]
      rfl
    · unfold dz_M287_64 q_let
      dsimp only
      rw [q_202F (v := a) (lo := 0) (hi := 4) (Or.inr (by omega))]
      rfl
  have ra : q_rgz 0 23 a := ⟨by omega, by omega⟩
  obtain ⟨g0, g1, g2, g3⟩ := h.1.cpu
  refine q_TNrd h (x.2.2 172) (dz_N133_87 (q_vw 32 1 73 x) a).toInt64 ((m.1 14) a.toNatClampNeg) (q_eq33_refl _) ?_ ?_ (fun q => ?_)
  · unfold dz_X9_64_236
    rw [q_lt_F (show (0 : Int32).toInt ≤ a.toInt by omega), q_lt_T (show a.toInt < (5 : Int32).toInt by omega)]
    rfl
  · unfold dz_M287_64 q_let
    dsimp only
    rw [q_202T (v := a) (lo := 0) (hi := 4) (by omega) (by omega), q_yM200, q_in_rg ra (by decide) (by decide)]
    rfl
  · rcases (by omega : a.toInt = 0 ∨ a.toInt = 1 ∨ a.toInt = 2 ∨ a.toInt = 3 ∨ a.toInt = 4) with e | e | e | e | e
    · rw [show a = 0 from Int32.toInt_inj.mp e]; exact congrArg Int32.toInt64 g0
    · rw [show a = 1 from Int32.toInt_inj.mp e]; exact congrArg Int32.toInt64 g1
    · rw [show a = 2 from Int32.toInt_inj.mp e]; exact congrArg Int32.toInt64 g2
    · rw [show a = 3 from Int32.toInt_inj.mp e]; exact congrArg Int32.toInt64 g3
    · rw [show a = 4 from Int32.toInt_inj.mp e]; exact congrArg Int32.toInt64 (h.1.r6.2.1 (q e))
/-- sumOfPicture -/
theorem q_lpSum (h : ∀ j, j < 1024 → x.1 32 j = m.1 5 j) : ∀ (n f g : Nat) (v1 v2 : Int32), v2.toInt + n = 1024 → 0 ≤ v2.toInt → n ≤ f → n ≤ g → ∃ r, dz_X66_64_4 (f + 1) x v1 v2 = some r ∧ dz_M312_64_9 (g + 1) m v1 v2 = some (m, r) := by
  intro n
  induction n with
  | zero =>
    intro f g v1 v2 hn h0 hf hg
    refine ⟨v1, ?_, ?_⟩
    · rw [dzs_X66_64_4]
      dsimp only
      rw [q_lt_F (by show (1024 : Int) ≤ _; omega)]
      rfl
    · rw [dzs_M312_64_9]
      dsimp only
      rw [q_lt_F (by show (1024 : Int) ≤ _; omega)]
      rfl
  | succ n ih =>
    intro f g v1 v2 hn h0 hf hg
    obtain ⟨f, rfl⟩ : ∃ f', f = f' + 1 := ⟨f - 1, by omega⟩
    obtain ⟨g, rfl⟩ : ∃ g', g = g' + 1 := ⟨g - 1, by omega⟩
    have e2 : (v2 + 1).toInt = v2.toInt + 1 := q_addI ⟨by omega, by omega⟩ ⟨by decide, by decide⟩
    obtain ⟨r, c1, c2⟩ := ih f g ((31 * v1) + (m.1 5 v2.toNatClampNeg)) (v2 + 1) (by omega) (by omega) (by omega) (by omega)
    have e := h v2.toNatClampNeg (by show v2.toInt.toNat < 1024; omega)
    have hin : q_in v2 1024 = true := q_in_rg (l := 0) (u := 1023) ⟨h0, by omega⟩ (by decide) (by decide)
    refine ⟨r, ?_, ?_⟩
    · rw [dzs_X66_64_4]
      generalize dz_X66_64_4 (f + 1) = kk at c1 ⊢
      unfold q_let
      dsimp only
      rw [q_lt_T (by show _ < (1024 : Int); omega), cond_true, hin, cond_true, e]
      exact c1
    · rw [dzs_M312_64_9]
      generalize dz_M312_64_9 (g + 1) = kk at c2 ⊢
      dsimp only
      rw [q_lt_T (by show _ < (1024 : Int); omega), cond_true, hin, cond_true]
      exact c2
theorem q_tSum (h : q_LX k m x) : ∃ r, dz_X66_64 x = some r ∧ dz_M312_64 m = some (q_mok m, r) := by
  have z0 : (0 : Int32).toInt = 0 := rfl
  obtain ⟨r, c1, c2⟩ := q_lpSum (m := q_mok m) (x := x) (fun j hj => h.1.r8.1.1 j hj) 1024 4999 4999 0 0 (by omega) (by omega) (by omega) (by omega)
  exact ⟨r, c1, c2⟩
end
