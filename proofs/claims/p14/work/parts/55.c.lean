section
variable {x y z m m2 : q_S} {c d w k : Int}
theorem q_tCol (h : q_LX k m x) (hI : q_Iv c d w m) (a : Int32) : q_TN k (some (dz_X19_64_236 x a)) (dz_M298_64 m a) Int32.toInt64 True := by
  have z0 : (0 : Int32).toInt = 0 := rfl
  have z15 : (15 : Int32).toInt = 15 := rfl
  have z16 : (16 : Int32).toInt = 16 := rfl
  by_cases l_a : a.toInt < 0
  · refine q_TNbad h 1 0 (by decide) ?_ ?_
    · unfold dz_X19_64_236
      rw [q_lt_T (show a.toInt < (0 : Int32).toInt by omega)]
      rfl
    · unfold dz_M298_64 q_let
      dsimp only
      rw [q_202F (v := a) (lo := 0) (hi := 15) (Or.inl (by omega))]
      rfl
  by_cases u_a : 15 < a.toInt
  · refine q_TNbad h 1 0 (by decide) ?_ ?_
    · unfold dz_X19_64_236
      rw [q_lt_F (show (0 : Int32).toInt ≤ a.toInt by omega), q_lt_T (show (15 : Int32).toInt < a.toInt by omega)]
      rfl
    · unfold dz_M298_64 q_let
      dsimp only
      rw [q_202F (v := a) (lo := 0) (hi := 15) (Or.inr (by omega))]
      rfl
  have ra : q_rgz 0 15 a := ⟨by omega, by omega⟩
  obtain ⟨m1, e1, e2⟩ := q_seen (q_ROk h.1) (q_Ivk hI) a ⟨by omega, by omega⟩
  refine q_TNrd h (x.2.2 172) (x.1 13 (a &&& 15).toNatClampNeg).toInt64 (x.1 13 (a &&& 15).toNatClampNeg) e2 ?_ ?_ (fun _ => rfl)
  · unfold dz_X19_64_236
    rw [q_lt_F (show (0 : Int32).toInt ≤ a.toInt by omega), q_lt_F (show a.toInt ≤ (15 : Int32).toInt by omega)]
    rfl
  · unfold dz_M298_64 q_let
    dsimp only
    rw [q_202T (v := a) (lo := 0) (hi := 15) (by omega) (by omega), q_yM200]
    simp only [cond_true, cond_false]
    rw [e1]
    rfl
/-- solidShare -/
theorem q_lpSol (b : Int32) (hb : m.1 4 3 = b) (h : ∀ j, j < 1024 → x.1 32 j = m.1 5 j) : ∀ (n f g : Nat) (v1 v2 : Int32), v2.toInt + n = 1024 → 0 ≤ v2.toInt → n ≤ f → n ≤ g → ∃ r, dz_X68_64_20 (f + 1) x b v1 v2 = some r ∧ dz_M314_64_9 (g + 1) m v1 v2 = some (m, r) ∧ q_nnf r = true := by
  intro n
  induction n with
  | zero =>
    intro f g v1 v2 hn h0 hf hg
    refine ⟨FP.fdiv (FP.i2f v1) 1149239296, ?_, ?_, q_nnS v1⟩
    · rw [dzs_X68_64_20]
      dsimp only
      rw [q_lt_F (by show (1024 : Int) ≤ _; omega), q_nnS]
      rfl
    · rw [dzs_M314_64_9]
      dsimp only
      rw [q_lt_F (by show (1024 : Int) ≤ _; omega), q_nnS]
      rfl
  | succ n ih =>
    intro f g v1 v2 hn h0 hf hg
    obtain ⟨f, rfl⟩ : ∃ f', f = f' + 1 := ⟨f - 1, by omega⟩
    obtain ⟨g, rfl⟩ : ∃ g', g = g' + 1 := ⟨g - 1, by omega⟩
    have e2 : (v2 + 1).toInt = v2.toInt + 1 := q_addI ⟨by omega, by omega⟩ ⟨by decide, by decide⟩
    obtain ⟨r, c1, c2, c3⟩ := ih f g (cond (decide (m.1 5 v2.toNatClampNeg = b)) v1 (v1 + 1)) (v2 + 1) (by omega) (by omega) (by omega) (by omega)
    have e := h v2.toNatClampNeg (by show v2.toInt.toNat < 1024; omega)
    have hin : q_in v2 1024 = true := q_in_rg (l := 0) (u := 1023) ⟨h0, by omega⟩ (by decide) (by decide)
    refine ⟨r, ?_, ?_, c3⟩
    · rw [dzs_X68_64_20]
      generalize dz_X68_64_20 (f + 1) = kk at c1 ⊢
      dsimp only
      rw [q_lt_T (by show _ < (1024 : Int); omega), cond_true, hin, cond_true, e]
      cases q : decide (m.1 5 v2.toNatClampNeg = b) with
      | true => rw [q] at c1; exact c1
      | false => rw [q] at c1; exact c1
    · rw [dzs_M314_64_9]
      generalize dz_M314_64_9 (g + 1) = kk at c2 ⊢
      dsimp only
      rw [q_lt_T (by show _ < (1024 : Int); omega), cond_true, hin, cond_true, hb]
      cases q : decide (m.1 5 v2.toNatClampNeg = b) with
      | true => rw [q] at c2; rw [cond_true, Int32.add_zero]; exact c2
      | false => rw [q] at c2; exact c2
theorem q_tSol (h : q_LX k m x) : ∃ r, dz_X68_64 x = some r ∧ dz_M314_64 m = some (q_mok m, r) ∧ q_nnf r = true := by
  have z0 : (0 : Int32).toInt = 0 := rfl
  have e3 : x.1 5 3 = m.1 4 3 := h.1.g 3
  obtain ⟨r, c1, c2, c3⟩ := q_lpSol (m := q_mok m) (x := x) (x.1 5 3) e3.symm (fun j hj => h.1.r8.1.1 j hj) 1024 4999 4999 0 0 (by omega) (by omega) (by omega) (by omega)
  exact ⟨r, c1, c2, c3⟩
/-- meanSample -/
theorem q_lpMen (h : ∀ j, j < 40 → x.1 31 j = m.1 6 j) : ∀ (n f g : Nat) (v1 v2 : Int32), v2.toInt + n = 40 → 0 ≤ v2.toInt → n ≤ f → n ≤ g → ∃ r, dz_X69_64_4 (f + 1) x v1 v2 = some r ∧ dz_M315_64_9 (g + 1) m v1 v2 = some (m, r) := by
  intro n
  induction n with
  | zero =>
    intro f g v1 v2 hn h0 hf hg
    refine ⟨FP.ddiv (FP.i2d v1) 4630826316843712512, ?_, ?_⟩
    · rw [dzs_X69_64_4]
      dsimp only
      rw [q_lt_F (by show (40 : Int) ≤ _; omega), q_nnM]
      rfl
    · rw [dzs_M315_64_9]
      dsimp only
      rw [q_lt_F (by show (40 : Int) ≤ _; omega), q_nnM]
      rfl
  | succ n ih =>
    intro f g v1 v2 hn h0 hf hg
    obtain ⟨f, rfl⟩ : ∃ f', f = f' + 1 := ⟨f - 1, by omega⟩
    obtain ⟨g, rfl⟩ : ∃ g', g = g' + 1 := ⟨g - 1, by omega⟩
    have e2 : (v2 + 1).toInt = v2.toInt + 1 := q_addI ⟨by omega, by omega⟩ ⟨by decide, by decide⟩
    obtain ⟨r, c1, c2⟩ := ih f g (v1 + (m.1 6 v2.toNatClampNeg)) (v2 + 1) (by omega) (by omega) (by omega) (by omega)
    have e := h v2.toNatClampNeg (by show v2.toInt.toNat < 40; omega)
    have hin : q_in v2 40 = true := q_in_rg (l := 0) (u := 39) ⟨h0, by omega⟩ (by decide) (by decide)
    refine ⟨r, ?_, ?_⟩
    · rw [dzs_X69_64_4]
      generalize dz_X69_64_4 (f + 1) = kk at c1 ⊢
      unfold q_let
      dsimp only
      rw [q_lt_T (by show _ < (40 : Int); omega), cond_true, hin, cond_true, e]
      exact c1
    · rw [dzs_M315_64_9]
      generalize dz_M315_64_9 (g + 1) = kk at c2 ⊢
      dsimp only
      rw [q_lt_T (by show _ < (40 : Int); omega), cond_true, hin, cond_true]
      exact c2
theorem q_tMen (h : q_LX k m x) : ∃ r, dz_X69_64 x = some r ∧ dz_M315_64 m = some (q_mok m, r) := by
  have z0 : (0 : Int32).toInt = 0 := rfl
  obtain ⟨r, c1, c2⟩ := q_lpMen (m := q_mok m) (x := x) (fun j hj => h.1.r7.2 j hj) 40 4999 4999 0 0 (by omega) (by omega) (by omega) (by omega)
  exact ⟨r, c1, c2⟩
/-- isSame's loop: the recording's machine alone changes -/
theorem q_lpSam (hI : q_Iv c d w m) (hk : k ≤ 512) : ∀ (n f : Nat) (s : q_S) (v2 : Int32), q_LX k m s → 0 ≤ v2.toInt → v2.toInt + n = (s.2.1 34 5).toInt → n ≤ f → ∃ r, dz_X65_27 (f + 1) s v2 = some r ∧ q_LX k m r.1 := by
  intro n
  induction n with
  | zero =>
    intro f s v2 h h0 hn hf
    obtain ⟨h1, h2, h3, h4, h5, h6, ⟨r1, r2, r3, r4, r5⟩, h8⟩ := h
    obtain ⟨i6, i7⟩ := q_iNof h1 (hI.1 15 6) (hI.1 15 7)
    obtain ⟨b, e, -⟩ := dzj_W78_64_96 (q_vw 32 35 1 (q_sI s 34 6 (s.2.1 34 5))) ⟨⟨h6.1, h6.2⟩, i6, i7⟩
    refine ⟨(q_sI s 34 6 (s.2.1 34 5), b), ?_, h1, h2, h3, h4, h5, h6, ⟨r1, r2, r3, r2, Int.le_refl _⟩, h8⟩
    rw [dzs_X65_27]
    dsimp only
    rw [q_lt_F (by omega), cond_false, e]
    cases b <;> rfl
  | succ n ih =>
    intro f s v2 h h0 hn hf
    obtain ⟨f, rfl⟩ : ∃ f', f = f' + 1 := ⟨f - 1, by omega⟩
    have hh := h
    obtain ⟨h1, h2, h3, h4, h5, h6, ⟨r1, r2, r3, r4, r5⟩, h8⟩ := hh
    have e2 : (v2 + 1).toInt = v2.toInt + 1 := q_addI ⟨by omega, by omega⟩ ⟨by decide, by decide⟩
    obtain ⟨r, er, hr⟩ := dzj_N79_64 (q_vw 32 35 73 s) h6 ((s.1 67) ((v2 &&& 511).toNatClampNeg)) ((s.1 68) ((v2 &&& 511).toNatClampNeg)) ((s.1 69) ((v2 &&& 511).toNatClampNeg)) ((s.1 70) ((v2 &&& 511).toNatClampNeg))
    have h' : q_LX k m (q_pt 32 3 35 73 s r.1) := ⟨h1, h2, h3, h4, h5, hr, ⟨r1, r2, r3, r4, r5⟩, h8⟩
    obtain ⟨r', c1, c2⟩ := ih f (q_pt 32 3 35 73 s r.1) (v2 + 1) h' (by omega) (by show (v2 + 1).toInt + n = (s.2.1 34 5).toInt; omega) (by omega)
    refine ⟨r', ?_, c2⟩
    rw [dzs_X65_27]
    generalize dz_X65_27 (f + 1) = kk at c1 ⊢
    unfold q_let
    dsimp only
    rw [q_lt_T (by omega), cond_true, q_in_and (x := v2) (m := 511) (n := 512) (by decide), cond_true, er]
    exact c1
theorem q_tSam (h : q_LX k m x) (hI : q_Iv c d w m) (hk : k ≤ 512) : q_TN k (dz_X26_64_236 x) (some (dz_M311_64 m)) q_kb False := by
  obtain ⟨r1, r2, r3, r4, r5⟩ := h.2.2.2.2.2.2.1
  rcases r1 with ⟨q1, q2⟩ | ⟨q1, q2⟩
  · refine q_TNbad h 1 false (by decide) ?_ ?_
    · unfold dz_X26_64_236
      rw [q1]; rfl
    · unfold dz_M311_64
      rw [q2]; rfl
  · obtain ⟨⟨s, b⟩, e, hs⟩ := q_lpSam hI hk ((x.2.1 34 5).toInt - (x.2.1 34 6).toInt).toNat 4999 x (x.2.1 34 6) h r4 (by omega) (by omega)
    have e' : dz_X65_27 5000 x (x.2.1 34 6) = some (s, b) := e
    have eM : dz_M311_64 m = (q_mok m, true) := by
      unfold dz_M311_64
      rw [q2, q_lt_F (show (0 : Int32).toInt ≤ (x.2.1 34 5).toInt from r2)]
      rfl
    rw [eM]
    refine q_TNrd hs (s.2.2 172) (q_kb b) true (q_eq33_refl _) ?_ rfl (fun q => q.elim)
    unfold dz_X26_64_236
    rw [q1, e']
    cases b <;> rfl
end
