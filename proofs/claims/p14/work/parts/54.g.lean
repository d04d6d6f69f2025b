section
variable {TT TT2 : (Nat → Int32) → Int32 → (Nat → Int32) → Int32 → Int64 → Int64 → List Int32 → List (Nat → Int32) → (Nat → Int64) → Prop} {x y z m : q_S} {c d w : Int} {K : Int64} {F : List Int32} {W : List (Nat → Int32)} {Q : Nat → Int64}
/-- the processor's part of a cycle -/
def q_cx (x : q_S) : Option q_S := (cond (decide (x.2.1 23 9 = 0)) (dz_N136_87_65 x) (some x)).bind fun r => q_let (dz_N141_87 r) fun r4 => cond r4.2 (dz_N142_87_65 r4.1) (some r4.1)
theorem q_prc (h : q_R (q_TT0 K F W Q) x m) (hI : q_Iv c d w m) (hd : c ≤ 1000000 ∧ d ≤ 1000000) (hJ : x.2.1 23 7 = 0) (h1 : 1 ≤ (x.2.1 23 9).toInt) : ∃ y m2, (q_let (dz_N141_87 x) fun r4 => cond r4.2 (dz_N142_87_65 r4.1) (some r4.1)) = some y ∧ dz_M277_64_25 m = some m2 ∧ q_R (q_TT0 K F W Q) y m2 := by
  have eL : x.2.1 23 9 = m.1 14 17 := h.r6.2.2.2.2.2.1
  have z0 : (0 : Int32).toInt = 0 := rfl
  have r9 := h.r6.2.2.2.2.2.2.2.2.2.2.2
  have r91 := r9.2
  have e1 : ((x.2.1 23 9) - 1).toInt = (x.2.1 23 9).toInt - 1 := q_subI ⟨by omega, by omega⟩ ⟨by decide, by decide⟩
  have R1 := q_R_left h hJ ((x.2.1 23 9) - 1) ⟨by omega, by omega⟩
  have I1 : q_Iv c d w (q_sA m 14 (upd (m.1 14) 17 ((x.2.1 23 9) - 1))) := q_Iv_n hI 17 _ (q_rg_full _)
  unfold dz_N141_87 dz_M277_64_25
  rw [q_upE (m.1 14) _ (rfl : 17 = 17), ← eL, q_eq_F (show ¬ (x.2.1 23 9).toInt = (0 : Int32).toInt by omega), cond_false]
  by_cases k : (x.2.1 23 9).toInt = 1
  · rw [q_eq_T (show ((x.2.1 23 9) - 1).toInt = (0 : Int32).toInt by omega), q_lt_F (show ((x.2.1 23 9) - 1).toInt ≤ (0 : Int32).toInt by omega), cond_true, cond_false]
    obtain ⟨y, m2, b1, b2, b3⟩ := q_fnsh R1 I1 hd hJ (by show (x.2.1 23 9) - 1 = 0; exact Int32.toInt_inj.mp (by omega))
    exact ⟨y, m2, b1, b2, b3⟩
  · rw [q_eq_F (show ¬ ((x.2.1 23 9) - 1).toInt = (0 : Int32).toInt by omega), q_lt_T (show (0 : Int32).toInt < ((x.2.1 23 9) - 1).toInt by omega), cond_true, cond_false]
    exact ⟨_, _, rfl, rfl, R1⟩
theorem q_proc (h : q_R (q_TT0 K F W Q) x m) (hI : q_Iv c d w m) (hd : c ≤ 1000000 ∧ d ≤ 1000000) : ∃ y m2, q_cx x = some y ∧ dz_M277_64 m = some m2 ∧ q_R (q_TT0 K F W Q) y m2 ∧ q_Iv c (d + 1) w m2 := by
  obtain ⟨m9, e9, i9⟩ := dzj_M277_64 c d w m hI hd
  suffices H : ∃ y m2, q_cx x = some y ∧ dz_M277_64 m = some m2 ∧ q_R (q_TT0 K F W Q) y m2 by
    obtain ⟨y, m2, a1, a2, a3⟩ := H
    rw [e9] at a2
    cases a2
    exact ⟨y, m9, a1, e9, a3, i9⟩
  have eJ : x.2.1 23 7 = m.1 15 7 := h.r6.2.2.2.1
  have eL : x.2.1 23 9 = m.1 14 17 := h.r6.2.2.2.2.2.1
  have z0 : (0 : Int32).toInt = 0 := rfl
  obtain ⟨rj, r9⟩ := h.r6.2.2.2.2.2.2.2.2.2.2
  unfold q_cx dz_M277_64
  rw [← eJ, ← eL]
  by_cases J : x.2.1 23 7 = 0
  · rw [decide_eq_true J, cond_true]
    by_cases L : x.2.1 23 9 = 0
    · rw [decide_eq_true L, cond_true, cond_true]
      obtain ⟨y1, m1, a1, a2, a3, a4, a5, a6⟩ := q_beg h hI J
      obtain ⟨y, m2, b1, b2, b3⟩ := q_prc a3 a4 hd a5 (by have := a6.1; omega)
      exact ⟨y, m2, by rw [a1]; exact b1, by rw [a2]; exact b2, b3⟩
    · rw [decide_eq_false L, cond_false, cond_false]
      have l0 := r9.1
      have : ¬ (x.2.1 23 9).toInt = 0 := fun q => L (Int32.toInt_inj.mp q)
      obtain ⟨y, m2, b1, b2, b3⟩ := q_prc h hI hd J (by omega)
      exact ⟨y, m2, b1, b2, b3⟩
  · rw [decide_eq_false J, cond_false]
    have L : x.2.1 23 9 = 0 := rj.resolve_left J
    refine ⟨x, m, ?_, rfl, h⟩
    have e136 : dz_N136_87_65 x = some x := by
      unfold dz_N136_87_65
      rw [decide_eq_false J]
      cases decide (((x.1 4) 10) &&& ((x.1 4) 11) = 0) <;> rfl
    rw [decide_eq_true L, cond_true, e136, Option.bind_some]
    unfold dz_N141_87
    rw [decide_eq_true L]
    rfl
theorem q_R_tm (h : q_R (q_TT0 K F W Q) x m) (k : Int64) : q_R (q_TT0 (K + k) F W Q) (q_sJ x 1 8 ((x.2.2 1 8) + 1)) (q_sJ (q_sJ m 0 16 ((m.2.2 0 16) + k)) 0 15 ((m.2.2 0 15) + 1)) := by
  obtain ⟨h1, h2, h3, h4, h5, ⟨p1, p2, p3, p4, p5, p6, p7, p8, p9, p10, p11⟩, h7, h8⟩ := h
  refine ⟨h1, h2, h3, h4, h5, ⟨p1, p2, p3, p4, p5, p6, p7, p8, ⟨p9.1, p9.2.1, ?_, p9.2.2.2⟩, p10, p11⟩, h7, ⟨h8.1, ?_⟩⟩
  · show x.2.2 0 4 + (K + k) = m.2.2 0 16 + k
    rw [← p9.2.2.1, Int64.add_assoc]
  · show (x.2.2 1 8) + 1 = (m.2.2 0 15) + 1
    rw [h8.2]
theorem q_NF_t (h : q_NF x y) (g : q_NF y z) : q_NF x z := ⟨fun i hi => (g.1 i hi).trans (h.1 i hi), fun i hi => (g.2.1 i hi).trans (h.2.1 i hi), g.2.2.trans h.2.2⟩
theorem q_127_77 (x : q_S) : q_NF x (dz_N127_77_66 x) := q_NF_t (q_NF_t (q_NF_t (q_NF_A 15 _ rfl) (q_NF_A 16 _ rfl)) (q_NF_I 13 2 _ rfl)) (q_NF_I 13 3 _ rfl)
theorem q_127_82 (x : q_S) : q_NF x (dz_N127_82_66 x) := q_NF_t (q_NF_t (q_NF_t (q_NF_A 20 _ rfl) (q_NF_A 21 _ rfl)) (q_NF_I 18 2 _ rfl)) (q_NF_I 18 3 _ rfl)
/-- the end of a cycle -/
def q_kb (b : Bool) : Int64 := cond b 1 0
theorem q_tme (h : q_R (q_TT0 K F W Q) x m) (hI : q_Iv c d w m) (hd : c ≤ 1000000 ∧ d ≤ 1000001) (b : Bool) : ∃ m2, dz_M234_64_117 m (q_b b) = some (m2, b) ∧ q_R (q_TT0 (K + q_kb b) F W Q) (dz_N107_65 x) m2 ∧ q_Iv (c + 1) d w m2 := by
  obtain ⟨⟨m9, b9⟩, e9, i9⟩ := dzj_M234_64_117 c d w m hI (q_b b) (by cases b <;> exact ⟨by decide, by decide⟩) hd
  have e : dz_M234_64_117 m (q_b b) = some (q_sJ (q_sJ m 0 16 ((m.2.2 0 16) + q_kb b)) 0 15 ((m.2.2 0 15) + 1), b) := by
    cases b <;> rfl
  rw [e] at e9
  cases e9
  refine ⟨_, e, ?_, i9⟩
  have R1 := q_R_tm h (q_kb b)
  unfold dz_N107_65
  cases decide (lg_cmp (((x.2.2 1 8) + 1) - ((x.2.2 1 8) + 1) / 960 * 960) 0 = 0) with
  | false => exact R1
  | true =>
    rw [cond_true]
    cases decide (lg_cmp ((((x.2.2 1 8) + 1) / 960) - (((x.2.2 1 8) + 1) / 960) / 2 * 2) 0 = 0) with
    | true => exact q_R_NF R1 (q_127_77 _)
    | false => exact q_R_NF R1 (q_127_82 _)
/-- a cycle of the class -/
def q_cyw (x : q_S) : Option (q_S × Bool) := (dz_N83_64 x).bind fun r1 => cond r1.2 (some (dz_N107_65 r1.1, true)) ((q_cx r1.1).bind fun r => some (dz_N107_65 r, false))
theorem q_cycle (h : q_R (q_TT0 K F W Q) x m) (hI : q_Iv c d w m) (hd : c ≤ 1000000 ∧ d ≤ 1000000) : ∃ y m2 b, q_cyw x = some (y, b) ∧ dz_M234_64 m = some (m2, b) ∧ q_R (q_TT0 (K + q_kb b) F W Q) y m2 ∧ q_Iv (c + 1) (d + 1) w m2 := by
  obtain ⟨y, m2, b, a1, a2, a3, a4, -, -⟩ := q_pass h hI
  rw [a2]
  unfold q_cyw
  rw [a1, Option.bind_some]
  cases b with
  | true =>
    obtain ⟨m3, b1, b2, b3⟩ := q_tme a3 a4 (by omega) true
    exact ⟨_, m3, true, rfl, b1, b2, q_Iv_mono b3 (by omega) (by omega) (by omega)⟩
  | false =>
    obtain ⟨y2, m3, b1, b2, b3, b4⟩ := q_proc a3 a4 hd
    obtain ⟨m4, c1, c2, c3⟩ := q_tme b3 b4 (by omega) false
    refine ⟨_, m4, false, by dsimp only; rw [cond_false, b1]; rfl, ?_, c2, c3⟩
    show ((dz_M277_64 m2).bind fun r13 => dz_M234_64_117 r13 0) = _
    rw [b2]
    exact c1
theorem q_35f (k : q_S → Int32 → Int32 → Int32 → Int32 → Int32 → Option (q_S × Int32)) (x : q_S) (v1 v2 v3 v4 v5 : Int32) : dz_N82_64_f_35 k x v1 v2 v3 v4 v5 = (q_cyw x).bind fun r => k r.1 v1 v2 v3 (v4 + 1) (cond r.2 (v5 + 1) v5) := by
  have e69 : ∀ s, dz_N82_64_f_69 k s v1 v2 v3 v4 v5 = (q_let (dz_N141_87 s) fun r4 => cond r4.2 (dz_N142_87_65 r4.1) (some r4.1)).bind fun r => k (dz_N107_65 r) v1 v2 v3 (v4 + 1) v5 := fun s => by
    unfold dz_N82_64_f_69 q_let
    dsimp only
    cases (dz_N141_87 s).2 with
    | true =>
      rw [cond_true, cond_true]
    | false =>
      rw [cond_false, cond_false]; rfl
  unfold dz_N82_64_f_35 q_cyw q_cx q_let
  dsimp only
  cases h1 : dz_N83_64 x with
  | none => rfl
  | some r1 =>
    rw [Option.bind_some, Option.bind_some]
    cases h2 : r1.2 with
    | true => rw [cond_true, cond_true]; rfl
    | false =>
      rw [cond_false, cond_false]
      cases h3 : decide (r1.1.2.1 23 9 = 0) with
      | true =>
        rw [cond_true, cond_true]
        cases h4 : dz_N136_87_65 r1.1 with
        | none => rfl
        | some r3 =>
          rw [Option.bind_some, Option.bind_some, e69]
          unfold q_let
          dsimp only
          cases cond (dz_N141_87 r3).2 (dz_N142_87_65 (dz_N141_87 r3).1) (some (dz_N141_87 r3).1) <;> rfl
      | false =>
        rw [cond_false, cond_false, e69, Option.bind_some]
        unfold q_let
        dsimp only
        cases cond (dz_N141_87 r1.1).2 (dz_N142_87_65 (dz_N141_87 r1.1).1) (some (dz_N141_87 r1.1).1) <;> rfl
theorem q_35t (k : q_S → Int32 → Int32 → Int32 → Int32 → Int32 → Option (q_S × Int32)) (x : q_S) (v1 v2 v3 v4 v5 : Int32) : dz_N82_64_t_35 k x v1 v2 v3 v4 v5 = (q_cyw x).bind fun r => k r.1 v1 v2 v3 (v4 + 1) (cond r.2 (v5 + 1) v5) := by
  have e69 : ∀ s, dz_N82_64_t_69 k s v1 v2 v3 v4 v5 = (q_let (dz_N141_87 s) fun r4 => cond r4.2 (dz_N142_87_65 r4.1) (some r4.1)).bind fun r => k (dz_N107_65 r) v1 v2 v3 (v4 + 1) v5 := fun s => by
    unfold dz_N82_64_t_69 q_let
    dsimp only
    cases (dz_N141_87 s).2 with
    | true =>
      rw [cond_true, cond_true]
    | false =>
      rw [cond_false, cond_false]; rfl
  unfold dz_N82_64_t_35 q_cyw q_cx q_let
  dsimp only
  cases h1 : dz_N83_64 x with
  | none => rfl
  | some r1 =>
    rw [Option.bind_some, Option.bind_some]
    cases h2 : r1.2 with
    | true => rw [cond_true, cond_true]; rfl
    | false =>
      rw [cond_false, cond_false]
      cases h3 : decide (r1.1.2.1 23 9 = 0) with
      | true =>
        rw [cond_true, cond_true]
        cases h4 : dz_N136_87_65 r1.1 with
        | none => rfl
        | some r3 =>
          rw [Option.bind_some, Option.bind_some, e69]
          unfold q_let
          dsimp only
          cases cond (dz_N141_87 r3).2 (dz_N142_87_65 (dz_N141_87 r3).1) (some (dz_N141_87 r3).1) <;> rfl
      | false =>
        rw [cond_false, cond_false, e69, Option.bind_some]
        unfold q_let
        dsimp only
        cases cond (dz_N141_87 r1.1).2 (dz_N142_87_65 (dz_N141_87 r1.1).1) (some (dz_N141_87 r1.1).1) <;> rfl
end
