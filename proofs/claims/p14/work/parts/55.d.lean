section
variable {x y z m m2 : q_S} {c d w k : Int}
/-- traceAt -/
theorem q_tTra (h : q_LX k m x) (hI : q_Iv c d w m) (hd : d ≤ 1000000) (a : Int32) : q_TN k (some (dz_X13_64_236 x a)) (dz_M242_64 m a) Int32.toInt64 True := by
  have t := q_R_t h.1
  have en : x.2.1 24 11 = m.1 14 20 := t.2.1
  have n0 : 0 ≤ (m.1 14 20).toInt := (hI.1 14 20).1
  have n1 : (m.1 14 20).toInt ≤ d := (hI.1 14 20).2
  have z0 : (0 : Int32).toInt = 0 := rfl
  have z1 : (1 : Int32).toInt = 1 := rfl
  have z16 : (16 : Int32).toInt = 16 := rfl
  -- how many there are
  have hN : ∃ N : Int32, (if (m.1 14 20) < (16 : Int32) then (m.1 14 20) else (16 : Int32)) = N ∧ 0 ≤ N.toInt ∧ N.toInt ≤ 16 ∧ N.toInt ≤ (m.1 14 20).toInt ∧ (∀ v : q_S × Int32 × Nat, ∀ u : q_S × Int32 × Nat, cond (decide (m.1 14 20 < 16)) (cond (decide (a < 0)) u (cond (decide (a < m.1 14 20)) v u)) (cond (decide (a < 0)) u (cond (decide (a < 16)) v u)) = cond (decide (a < 0)) u (cond (decide (a < N)) v u)) := by
    by_cases q : (m.1 14 20).toInt < 16
    · have q' : (m.1 14 20) < (16 : Int32) := Int32.lt_iff_toInt_lt.mpr (by omega)
      exact ⟨m.1 14 20, if_pos q', n0, by omega, Int.le_refl _, fun v u => by rw [decide_eq_true q']; rfl⟩
    · have q' : ¬ (m.1 14 20) < (16 : Int32) := fun w => q (by have := Int32.lt_iff_toInt_lt.mp w; omega)
      exact ⟨16, if_neg q', by omega, by omega, by omega, fun v u => by rw [decide_eq_false q']; rfl⟩
  obtain ⟨N, eN, N0, N16, Nn, eX⟩ := hN
  have eX13 : dz_X13_64_236 x a = cond (decide (a < 0)) ((x, 1, 1)) (cond (decide (a < N)) (((q_sL x 172 (vp_updL (x.2.2 172) 0 (((x.1 25) (((((m.1 14 20) - 1) - a) &&& 15).toNatClampNeg)).toInt64))), 0, 0)) ((x, 1, 1))) := by
    unfold dz_X13_64_236
    rw [en]
    exact eX _ _
  have es : (N - 1).toInt = N.toInt - 1 := q_subI ⟨by omega, by omega⟩ ⟨by decide, by decide⟩
  rw [eX13]
  by_cases l : a.toInt < 0
  · refine q_TNbad h 1 0 (by decide) ?_ ?_
    · rw [q_lt_T (by omega)]; rfl
    · unfold dz_M242_64 q_let
      dsimp only
      rw [eN, q_202F (v := a) (lo := 0) (hi := N - 1) (Or.inl (by omega))]
      rfl
  by_cases u : N.toInt ≤ a.toInt
  · refine q_TNbad h 1 0 (by decide) ?_ ?_
    · rw [q_lt_F (show (0 : Int32).toInt ≤ a.toInt by omega), q_lt_F u]; rfl
    · unfold dz_M242_64 q_let
      dsimp only
      rw [eN, q_202F (v := a) (lo := 0) (hi := N - 1) (Or.inr (by omega))]
      rfl
  have e1 : ((m.1 14 20) - 1).toInt = (m.1 14 20).toInt - 1 := q_subI ⟨by omega, by omega⟩ ⟨by decide, by decide⟩
  have e2 : (((m.1 14 20) - 1) - a).toInt = (m.1 14 20).toInt - 1 - a.toInt := by rw [q_subI ⟨by omega, by omega⟩ ⟨by omega, by omega⟩, e1]
  have e16 : (((m.1 14 20) - 1) - a) - (((m.1 14 20) - 1) - a) / 16 * 16 = (((m.1 14 20) - 1) - a) &&& 15 := by
    apply Int32.toInt_inj.mp
    rw [q_rem_eq (by omega) (by decide), q_andI 4 (by decide) (l := 0) (u := 1000000) ⟨by omega, by omega⟩ (by decide) (show (15 : Int32).toInt = 2 ^ 4 - 1 from rfl)]
    rfl
  have r15 := q_rg_and (((m.1 14 20) - 1) - a) 15 (U := 15) (by decide) rfl
  have r0 := r15.1
  have r1 := r15.2
  generalize hj : (((m.1 14 20) - 1) - a) &&& 15 = j at *
  have ej := t.1 j.toNatClampNeg (by show j.toInt.toNat < 16; omega)
  have ej' : x.1 25 j.toNatClampNeg = m.1 9 j.toNatClampNeg := ej
  refine q_TNrd h (x.2.2 172) ((m.1 9) j.toNatClampNeg).toInt64 ((m.1 9) j.toNatClampNeg) (q_eq33_refl _) ?_ ?_ (fun _ => rfl)
  · rw [q_lt_F (show (0 : Int32).toInt ≤ a.toInt by omega), q_lt_T (by omega), ej']
    rfl
  · unfold dz_M242_64 q_let
    dsimp only
    rw [eN, q_202T (v := a) (lo := 0) (hi := N - 1) (by omega) (by omega), q_yM200]
    simp only [cond_true, cond_false]
    show cond (q_in ((((m.1 14 20) - 1) - a) - (((m.1 14 20) - 1) - a) / 16 * 16) 16) (some (q_mok m, m.1 9 ((((m.1 14 20) - 1) - a) - (((m.1 14 20) - 1) - a) / 16 * 16).toNatClampNeg)) none = _
    rw [e16, q_in_rg r15 (by decide) (by decide)]
    rfl
end
