section
variable {TT TT2 : (Nat → Int32) → Int32 → (Nat → Int32) → Int32 → Int64 → Int64 → List Int32 → List (Nat → Int32) → (Nat → Int64) → Prop} {x y z m : q_S} {c d w : Int} {K : Int64} {F : List Int32} {W : List (Nat → Int32)} {Q : Nat → Int64}
theorem q_l64 {a : Int32} (h : q_rgz 0 100000 a) (b : Bool) : a.toInt64 + q_kb b = (cond b (a + 1) a).toInt64 := by
  have a0 := h.1
  have a1 := h.2
  cases b with
  | false => show a.toInt64 + 0 = a.toInt64; rw [Int64.add_zero]
  | true =>
    show a.toInt64 + 1 = (a + 1).toInt64
    have e1 : (a + 1).toInt = a.toInt + 1 := q_addI ⟨by omega, by omega⟩ ⟨by decide, by decide⟩
    apply Int64.toInt_inj.mp
    rw [Int32.toInt_toInt64, e1, Int64.toInt_add, Int32.toInt_toInt64]
    show Int.bmod (a.toInt + 1) (2 ^ 64) = _
    rw [Int.bmod_def]
    omega
/-- a run's loop -/
theorem q_lpR : ∀ (n f g : Nat) (x m : q_S) (c d : Int) (v1 v3 v4 v5 : Int32), q_R (q_TT0 v5.toInt64 F W Q) x m → q_Iv c d w m → c + n ≤ 1000000 → d + n ≤ 1000000 → v4.toInt + n = v1.toInt → 0 ≤ v5.toInt → v5.toInt ≤ v4.toInt → v1.toInt ≤ 1000 → n ≤ f → n ≤ g → ∃ y m2 r, dz_N82_64_f_14 (f + 1) x v1 0 v3 v4 v5 = some (q_sJ y 0 4 ((y.2.2 0 4) + r.toInt64), r) ∧ dz_M235_64_29 (g + 1) m v1 v5 v4 = some (dz_M204_64 m2, r) ∧ q_R (q_TT0 r.toInt64 F W Q) y m2 ∧ q_Iv (c + n) (d + n) w m2 ∧ 0 ≤ r.toInt ∧ r.toInt ≤ v1.toInt := by
  intro n
  induction n with
  | zero =>
    intro f g x m c d v1 v3 v4 v5 h hI hc hd hn h0 h5 hv hf hg
    refine ⟨x, m, v5, ?_, ?_, h, q_Iv_mono hI (by omega) (by omega) (by omega), h0, by omega⟩
    · rw [dzs_N82_64_f_14]
      dsimp only
      rw [q_lt_F (by omega), cond_false]
      rfl
    · rw [dzs_M235_64_29]
      dsimp only
      rw [q_lt_F (by omega), cond_false]
      rfl
  | succ n ih =>
    intro f g x m c d v1 v3 v4 v5 h hI hc hd hn h0 h5 hv hf hg
    obtain ⟨f, rfl⟩ : ∃ f', f = f' + 1 := ⟨f - 1, by omega⟩
    obtain ⟨g, rfl⟩ : ∃ g', g = g' + 1 := ⟨g - 1, by omega⟩
    obtain ⟨y, m2, b, a1, a2, a3, a4⟩ := q_cycle h hI (by omega)
    have e4 : (v4 + 1).toInt = v4.toInt + 1 := q_addI ⟨by omega, by omega⟩ ⟨by decide, by decide⟩
    have e5 : (v5 + 1).toInt = v5.toInt + 1 := q_addI ⟨by omega, by omega⟩ ⟨by decide, by decide⟩
    have a3' : q_R (q_TT0 (cond b (v5 + 1) v5).toInt64 F W Q) y m2 := by
      rw [← q_l64 ⟨h0, by omega⟩ b]
      exact a3
    have hb : 0 ≤ (cond b (v5 + 1) v5).toInt ∧ (cond b (v5 + 1) v5).toInt ≤ (v4 + 1).toInt := by
      cases b with
      | true => rw [cond_true]; omega
      | false => rw [cond_false]; omega
    obtain ⟨y2, m3, r, b1, b2, b3, b4, b5, b6⟩ := ih f g y m2 (c + 1) (d + 1) v1 v3 (v4 + 1) (cond b (v5 + 1) v5) a3' a4 (by omega) (by omega) (by omega) hb.1 hb.2 hv (by omega) (by omega)
    refine ⟨y2, m3, r, ?_, ?_, b3, q_Iv_mono b4 (by omega) (by omega) (by omega), b5, b6⟩
    · rw [dzs_N82_64_f_14]
      generalize dz_N82_64_f_14 (f + 1) = k at b1 ⊢
      dsimp only
      rw [q_lt_T (by omega), cond_true, decide_eq_true (rfl : (0 : Int32) = 0), cond_true, q_35f, a1]
      exact b1
    · rw [dzs_M235_64_29]
      generalize dz_M235_64_29 (g + 1) = k at b2 ⊢
      dsimp only
      rw [q_lt_T (by omega), cond_true, a2, Option.bind_some]
      cases b with
      | true => exact b2
      | false => rw [cond_false, Int32.add_zero]; exact b2
/-- a step's loop -/
theorem q_lpS : ∀ (n f g : Nat) (x m : q_S) (c d : Int) (v3 v4 v5 : Int32), q_R (q_TT0 v5.toInt64 F W Q) x m → q_Iv c d w m → c + n ≤ 1000000 → d + n ≤ 1000000 → v4.toInt + n = 200 → 0 ≤ v5.toInt → v5.toInt ≤ v4.toInt → n ≤ f → n ≤ g → ∃ (y m2 : q_S) (r v : Int32), dz_N82_64_t_14 (f + 1) x 200 1 v3 v4 v5 = some (q_sJ y 0 4 ((y.2.2 0 4) + v.toInt64), r) ∧ dz_M236_64_34 (g + 1) m v3 v4 = some (dz_M204_64 m2, r) ∧ q_R (q_TT0 v.toInt64 F W Q) y m2 ∧ q_Iv (c + n) (d + n) w m2 ∧ 0 ≤ r.toInt ∧ r.toInt ≤ 200 := by
  intro n
  induction n with
  | zero =>
    intro f g x m c d v3 v4 v5 h hI hc hd hn h0 h5 hf hg
    refine ⟨x, m, v4, v5, ?_, ?_, h, q_Iv_mono hI (by omega) (by omega) (by omega), by omega, by omega⟩
    · rw [dzs_N82_64_t_14]
      dsimp only
      rw [q_lt_F (by show (200 : Int) ≤ _; omega), cond_false]
      rfl
    · rw [dzs_M236_64_34]
      dsimp only
      rw [q_lt_F (by show (200 : Int) ≤ _; omega), cond_false]
      rfl
  | succ n ih =>
    intro f g x m c d v3 v4 v5 h hI hc hd hn h0 h5 hf hg
    obtain ⟨f, rfl⟩ : ∃ f', f = f' + 1 := ⟨f - 1, by omega⟩
    obtain ⟨g, rfl⟩ : ∃ g', g = g' + 1 := ⟨g - 1, by omega⟩
    have eD : x.2.1 23 10 = m.1 14 19 := h.r6.2.2.2.2.2.2.1
    by_cases kD : m.1 14 19 = v3
    · obtain ⟨y, m2, b, a1, a2, a3, a4⟩ := q_cycle h hI (by omega)
      have e4 : (v4 + 1).toInt = v4.toInt + 1 := q_addI ⟨by omega, by omega⟩ ⟨by decide, by decide⟩
      have e5 : (v5 + 1).toInt = v5.toInt + 1 := q_addI ⟨by omega, by omega⟩ ⟨by decide, by decide⟩
      have a3' : q_R (q_TT0 (cond b (v5 + 1) v5).toInt64 F W Q) y m2 := by
        rw [← q_l64 ⟨h0, by omega⟩ b]
        exact a3
      have hb : 0 ≤ (cond b (v5 + 1) v5).toInt ∧ (cond b (v5 + 1) v5).toInt ≤ (v4 + 1).toInt := by
        cases b with
        | true => rw [cond_true]; omega
        | false => rw [cond_false]; omega
      obtain ⟨y2, m3, r, v, b1, b2, b3, b4, b5, b6⟩ := ih f g y m2 (c + 1) (d + 1) v3 (v4 + 1) (cond b (v5 + 1) v5) a3' a4 (by omega) (by omega) (by omega) hb.1 hb.2 (by omega) (by omega)
      refine ⟨y2, m3, r, v, ?_, ?_, b3, q_Iv_mono b4 (by omega) (by omega) (by omega), b5, b6⟩
      · rw [dzs_N82_64_t_14]
        generalize dz_N82_64_t_14 (f + 1) = k at b1 ⊢
        dsimp only
        rw [q_lt_T (by show _ < (200 : Int); omega), cond_true, decide_eq_false (show ¬ (1 : Int32) = 0 by decide), cond_false, eD, decide_eq_true kD, cond_true, q_35t, a1]
        exact b1
      · rw [dzs_M236_64_34]
        generalize dz_M236_64_34 (g + 1) = k at b2 ⊢
        dsimp only
        rw [q_lt_T (by show _ < (200 : Int); omega), cond_true, decide_eq_true kD, cond_true, a2, Option.bind_some]
        cases b with
        | true => exact b2
        | false => exact b2
    · refine ⟨x, m, v4, v5, ?_, ?_, h, q_Iv_mono hI (by omega) (by omega) (by omega), by omega, by omega⟩
      · rw [dzs_N82_64_t_14]
        generalize dz_N82_64_t_14 (f + 1) = k
        dsimp only
        rw [q_lt_T (by show _ < (200 : Int); omega), cond_true, decide_eq_false (show ¬ (1 : Int32) = 0 by decide), cond_false, eD, decide_eq_false kD, cond_false]
        rfl
      · rw [dzs_M236_64_34]
        generalize dz_M236_64_34 (g + 1) = k
        dsimp only
        rw [q_lt_T (by show _ < (200 : Int); omega), cond_true, decide_eq_false kD, cond_false]
        rfl
theorem q_R_pc (h : q_R (q_TT0 K F W Q) x m) : q_R (q_TT0 0 F W Q) (q_sJ x 0 4 ((x.2.2 0 4) + K)) m := by
  obtain ⟨h1, h2, h3, h4, h5, ⟨p1, p2, p3, p4, p5, p6, p7, p8, p9, p10, p11⟩, h7, h8⟩ := h
  refine ⟨h1, h2, h3, h4, h5, ⟨p1, p2, p3, p4, p5, p6, p7, p8, ⟨p9.1, p9.2.1, ?_, p9.2.2.2⟩, p10, p11⟩, h7, h8⟩
  show (x.2.2 0 4 + K) + 0 = m.2.2 0 16
  rw [Int64.add_zero, p9.2.2.1]
/-- run -/
theorem q_run82 (h : q_R (q_TT0 0 F W Q) x m) (hI : q_Iv c d w m) (n : Int32) (hn : q_rgz 1 1000 n) (hc : c + 1000 ≤ 1000000) (hd : d + 1000 ≤ 1000000) : ∃ y m2 r, dz_N82_64_f x n = some (y, r) ∧ dz_M235_64_29 5000 m n 0 0 = some (dz_M204_64 m2, r) ∧ q_R (q_TT0 0 F W Q) y m2 ∧ q_Iv (c + 1000) (d + 1000) w m2 := by
  have n0 := hn.1
  have n1 := hn.2
  have z0 : (0 : Int32).toInt = 0 := rfl
  obtain ⟨y, m2, r, a1, a2, a3, a4, a5, a6⟩ := q_lpR (w := w) n.toInt.toNat 2147483649 4999 x m c d n (x.2.1 23 10) 0 0 h hI (by omega) (by omega) (by omega) (by omega) (by omega) (by omega) (by omega) (by omega)
  exact ⟨_, m2, r, a1, a2, q_R_pc a3, q_Iv_mono a4 (by omega) (by omega) (by omega)⟩
/-- step -/
theorem q_stp82 (h : q_R (q_TT0 0 F W Q) x m) (hI : q_Iv c d w m) (hc : c + 1000 ≤ 1000000) (hd : d + 1000 ≤ 1000000) : ∃ y m2 r, dz_N82_64_t x 200 = some (y, r) ∧ dz_M236_64_34 5000 m (m.1 14 19) 0 = some (dz_M204_64 m2, r) ∧ q_R (q_TT0 0 F W Q) y m2 ∧ q_Iv (c + 1000) (d + 1000) w m2 := by
  have z0 : (0 : Int32).toInt = 0 := rfl
  have eD : x.2.1 23 10 = m.1 14 19 := h.r6.2.2.2.2.2.2.1
  obtain ⟨y, m2, r, v, a1, a2, a3, a4, a5, a6⟩ := q_lpS (w := w) 200 2147483649 4999 x m c d (x.2.1 23 10) 0 0 h hI (by omega) (by omega) (by omega) (by omega) (by omega) (by omega) (by omega)
  rw [eD] at a2
  exact ⟨_, m2, r, a1, a2, q_R_pc a3, q_Iv_mono a4 (by omega) (by omega) (by omega)⟩
end
