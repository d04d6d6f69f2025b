section
variable {TT : (Nat → Int32) → Int32 → (Nat → Int32) → Int32 → Int64 → Int64 → List Int32 → List (Nat → Int32) → (Nat → Int64) → Prop} {x y z m : q_S} {c d w : Int} {A X Y S : Int32} {C Z I D V N : Bool}
theorem q_shg (q : q_cpu A X Y S C Z I D V N x m) (b : Bool) (v : Int32) : ∃ m2, dz_M261_64 (q_sA m 15 (upd (m.1 15) 5 (vp_nar .boolean (q_b b)))) 0 v = some m2 ∧ q_cpu v X Y S b (decide (v = 0)) I D V (decide (127 < v)) (q_sI (dz_N150_87 (cond b (dz_N149_87_t x 1) (dz_N149_87_f x 1)) v).1 23 0 v) m2 ∧ q_CX x (q_sI (dz_N150_87 (cond b (dz_N149_87_t x 1) (dz_N149_87_f x 1)) v).1 23 0 v) ∧ q_CM m m2 := by
  obtain ⟨s1, s2⟩ := q_sc q
  obtain ⟨t1, t2, t3⟩ := q.fl (C' := b)
  obtain ⟨⟨b1, b2⟩, -, -⟩ := q_bec t1 v
  obtain ⟨j1, j2, j3, j4, j5⟩ := q_jud t1 v
  rw [s1, s2, show (cond b (q_sI x 23 5 (q_F true Z I D V N)) (q_sI x 23 5 (q_F false Z I D V N))) = q_sI x 23 5 (q_F b Z I D V N) by cases b <;> rfl, q_nb]
  exact ⟨_, b1, b2, (t2.trans j4).trans (q_CX_k 0 v rfl), (t3.trans j5).trans (q_CM_n 0 v rfl)⟩
theorem q_hi (m : q_S) {A : Int32} (h : q_rgz 0 255 A) : dz_M205 m A 7 = decide (127 < A) := by
  rw [q_has 7 h (by decide) rfl (by decide)]
  have a := h.1
  have b := h.2
  have z : (127 : Int32).toInt = 127 := rfl
  by_cases k : 127 < A.toInt
  · rw [q_lt_T (show (127 : Int32).toInt < A.toInt by omega), decide_eq_true (show A.toInt / 2 ^ 7 % 2 = 1 by simp only [Int.reducePow]; omega)]
  · rw [q_lt_F (show A.toInt ≤ (127 : Int32).toInt by omega), decide_eq_false (show ¬ A.toInt / 2 ^ 7 % 2 = 1 by simp only [Int.reducePow]; omega)]
theorem q_loz (m : q_S) {A : Int32} (h : q_rgz 0 255 A) : dz_M205 m A 0 = decide (A - A / 2 * 2 = 1) := by
  rw [q_has 0 h (by decide) rfl (by decide)]
  have a := h.1
  have b := h.2
  have e : (A - A / 2 * 2).toInt = A.toInt % 2 := q_rem_eq a (by decide)
  have z : (1 : Int32).toInt = 1 := rfl
  by_cases k : A.toInt % 2 = 1
  · rw [q_eq_T (show (A - A / 2 * 2).toInt = (1 : Int32).toInt by omega), decide_eq_true (show A.toInt / 2 ^ 0 % 2 = 1 by simp only [Int.reducePow]; omega)]
  · rw [q_eq_F (show ¬ (A - A / 2 * 2).toInt = (1 : Int32).toInt by omega), decide_eq_false (show ¬ A.toInt / 2 ^ 0 % 2 = 1 by simp only [Int.reducePow]; omega)]
theorem q_c128 (h : q_R TT x m) (hI : q_Iv c d w m) (p : Int32) : ∃ y m1, dz_N157_87_65 x 128 = some y ∧ dz_M272_64 m 128 p = some (q_sA m1 14 (upd (m1.1 14) 4 ((p + 1) &&& 4095))) ∧ q_R TT y m1 := by
  obtain ⟨A, X, Y, S, C, Z, I, D, V, N, q, rA, rX, rY, rS⟩ := q_cpu_of h hI
  obtain ⟨-, ⟨b1, b2⟩, -⟩ := q_bec q ((X + 1) &&& 255)
  obtain ⟨j1, j2, j3, j4, j5⟩ := q_jud q ((X + 1) &&& 255)
  refine ⟨q_sI (dz_N150_87 x ((X + 1) &&& 255)).1 23 1 ((X + 1) &&& 255), _, ?_, ?_, q_R_C h (j4.trans (q_CX_k 1 ((X + 1) &&& 255) rfl)) (j5.trans (q_CM_n 1 ((X + 1) &&& 255) rfl)) b2⟩
  · show some (q_sI (dz_N150_87 x (((x.2.1 23 1) + 1) &&& 255)).1 23 1 (dz_N150_87 x (((x.2.1 23 1) + 1) &&& 255)).2) = _
    rw [q.2.1.1, j1]
  · show ((dz_M261_64 m 1 (((m.1 14 1) + 1) &&& 255)).bind fun r => some (q_sA r 14 (upd (r.1 14) 4 ((p + 1) &&& 4095)))) = _
    rw [q.2.1.2, b1]; rfl
theorem q_c129 (h : q_R TT x m) (hI : q_Iv c d w m) (p : Int32) : ∃ y m1, dz_N157_87_65 x 129 = some y ∧ dz_M272_64 m 129 p = some (q_sA m1 14 (upd (m1.1 14) 4 ((p + 1) &&& 4095))) ∧ q_R TT y m1 := by
  obtain ⟨A, X, Y, S, C, Z, I, D, V, N, q, rA, rX, rY, rS⟩ := q_cpu_of h hI
  obtain ⟨-, ⟨b1, b2⟩, -⟩ := q_bec q ((X - 1) &&& 255)
  obtain ⟨j1, j2, j3, j4, j5⟩ := q_jud q ((X - 1) &&& 255)
  refine ⟨q_sI (dz_N150_87 x ((X - 1) &&& 255)).1 23 1 ((X - 1) &&& 255), _, ?_, ?_, q_R_C h (j4.trans (q_CX_k 1 ((X - 1) &&& 255) rfl)) (j5.trans (q_CM_n 1 ((X - 1) &&& 255) rfl)) b2⟩
  · show some (q_sI (dz_N150_87 x (((x.2.1 23 1) - 1) &&& 255)).1 23 1 (dz_N150_87 x (((x.2.1 23 1) - 1) &&& 255)).2) = _
    rw [q.2.1.1, j1]
  · show ((dz_M261_64 m 1 (((m.1 14 1) - 1) &&& 255)).bind fun r => some (q_sA r 14 (upd (r.1 14) 4 ((p + 1) &&& 4095)))) = _
    rw [q.2.1.2, b1]; rfl
theorem q_c130 (h : q_R TT x m) (hI : q_Iv c d w m) (p : Int32) : ∃ y m1, dz_N157_87_65 x 130 = some y ∧ dz_M272_64 m 130 p = some (q_sA m1 14 (upd (m1.1 14) 4 ((p + 1) &&& 4095))) ∧ q_R TT y m1 := by
  obtain ⟨A, X, Y, S, C, Z, I, D, V, N, q, rA, rX, rY, rS⟩ := q_cpu_of h hI
  obtain ⟨-, -, ⟨b1, b2⟩⟩ := q_bec q ((Y + 1) &&& 255)
  obtain ⟨j1, j2, j3, j4, j5⟩ := q_jud q ((Y + 1) &&& 255)
  refine ⟨q_sI (dz_N150_87 x ((Y + 1) &&& 255)).1 23 2 ((Y + 1) &&& 255), _, ?_, ?_, q_R_C h (j4.trans (q_CX_k 2 ((Y + 1) &&& 255) rfl)) (j5.trans (q_CM_n 2 ((Y + 1) &&& 255) rfl)) b2⟩
  · show some (q_sI (dz_N150_87 x (((x.2.1 23 2) + 1) &&& 255)).1 23 2 (dz_N150_87 x (((x.2.1 23 2) + 1) &&& 255)).2) = _
    rw [q.2.2.1.1, j1]
  · show ((dz_M261_64 m 2 (((m.1 14 2) + 1) &&& 255)).bind fun r => some (q_sA r 14 (upd (r.1 14) 4 ((p + 1) &&& 4095)))) = _
    rw [q.2.2.1.2, b1]; rfl
theorem q_c131 (h : q_R TT x m) (hI : q_Iv c d w m) (p : Int32) : ∃ y m1, dz_N157_87_65 x 131 = some y ∧ dz_M272_64 m 131 p = some (q_sA m1 14 (upd (m1.1 14) 4 ((p + 1) &&& 4095))) ∧ q_R TT y m1 := by
  obtain ⟨A, X, Y, S, C, Z, I, D, V, N, q, rA, rX, rY, rS⟩ := q_cpu_of h hI
  obtain ⟨-, -, ⟨b1, b2⟩⟩ := q_bec q ((Y - 1) &&& 255)
  obtain ⟨j1, j2, j3, j4, j5⟩ := q_jud q ((Y - 1) &&& 255)
  refine ⟨q_sI (dz_N150_87 x ((Y - 1) &&& 255)).1 23 2 ((Y - 1) &&& 255), _, ?_, ?_, q_R_C h (j4.trans (q_CX_k 2 ((Y - 1) &&& 255) rfl)) (j5.trans (q_CM_n 2 ((Y - 1) &&& 255) rfl)) b2⟩
  · show some (q_sI (dz_N150_87 x (((x.2.1 23 2) - 1) &&& 255)).1 23 2 (dz_N150_87 x (((x.2.1 23 2) - 1) &&& 255)).2) = _
    rw [q.2.2.1.1, j1]
  · show ((dz_M261_64 m 2 (((m.1 14 2) - 1) &&& 255)).bind fun r => some (q_sA r 14 (upd (r.1 14) 4 ((p + 1) &&& 4095)))) = _
    rw [q.2.2.1.2, b1]; rfl
theorem q_c132 (h : q_R TT x m) (hI : q_Iv c d w m) (p : Int32) : ∃ y m1, dz_N157_87_65 x 132 = some y ∧ dz_M272_64 m 132 p = some (q_sA m1 14 (upd (m1.1 14) 4 ((p + 1) &&& 4095))) ∧ q_R TT y m1 := by
  obtain ⟨A, X, Y, S, C, Z, I, D, V, N, q, rA, rX, rY, rS⟩ := q_cpu_of h hI
  obtain ⟨-, ⟨b1, b2⟩, -⟩ := q_bec q (A)
  obtain ⟨j1, j2, j3, j4, j5⟩ := q_jud q (A)
  refine ⟨q_sI (dz_N150_87 x (A)).1 23 1 (A), _, ?_, ?_, q_R_C h (j4.trans (q_CX_k 1 (A) rfl)) (j5.trans (q_CM_n 1 (A) rfl)) b2⟩
  · show some (q_sI (dz_N150_87 x (x.2.1 23 0)).1 23 1 (dz_N150_87 x (x.2.1 23 0)).2) = _
    rw [q.1.1, j1]
  · show ((dz_M261_64 m 1 (m.1 14 0)).bind fun r => some (q_sA r 14 (upd (r.1 14) 4 ((p + 1) &&& 4095)))) = _
    rw [q.1.2, b1]; rfl
theorem q_c133 (h : q_R TT x m) (hI : q_Iv c d w m) (p : Int32) : ∃ y m1, dz_N157_87_65 x 133 = some y ∧ dz_M272_64 m 133 p = some (q_sA m1 14 (upd (m1.1 14) 4 ((p + 1) &&& 4095))) ∧ q_R TT y m1 := by
  obtain ⟨A, X, Y, S, C, Z, I, D, V, N, q, rA, rX, rY, rS⟩ := q_cpu_of h hI
  obtain ⟨⟨b1, b2⟩, -, -⟩ := q_bec q (X)
  obtain ⟨j1, j2, j3, j4, j5⟩ := q_jud q (X)
  refine ⟨q_sI (dz_N150_87 x (X)).1 23 0 (X), _, ?_, ?_, q_R_C h (j4.trans (q_CX_k 0 (X) rfl)) (j5.trans (q_CM_n 0 (X) rfl)) b2⟩
  · show some (q_sI (dz_N150_87 x (x.2.1 23 1)).1 23 0 (dz_N150_87 x (x.2.1 23 1)).2) = _
    rw [q.2.1.1, j1]
  · show ((dz_M261_64 m 0 (m.1 14 1)).bind fun r => some (q_sA r 14 (upd (r.1 14) 4 ((p + 1) &&& 4095)))) = _
    rw [q.2.1.2, b1]; rfl
theorem q_c134 (h : q_R TT x m) (hI : q_Iv c d w m) (p : Int32) : ∃ y m1, dz_N157_87_65 x 134 = some y ∧ dz_M272_64 m 134 p = some (q_sA m1 14 (upd (m1.1 14) 4 ((p + 1) &&& 4095))) ∧ q_R TT y m1 := by
  obtain ⟨A, X, Y, S, C, Z, I, D, V, N, q, rA, rX, rY, rS⟩ := q_cpu_of h hI
  obtain ⟨-, -, ⟨b1, b2⟩⟩ := q_bec q (A)
  obtain ⟨j1, j2, j3, j4, j5⟩ := q_jud q (A)
  refine ⟨q_sI (dz_N150_87 x (A)).1 23 2 (A), _, ?_, ?_, q_R_C h (j4.trans (q_CX_k 2 (A) rfl)) (j5.trans (q_CM_n 2 (A) rfl)) b2⟩
  · show some (q_sI (dz_N150_87 x (x.2.1 23 0)).1 23 2 (dz_N150_87 x (x.2.1 23 0)).2) = _
    rw [q.1.1, j1]
  · show ((dz_M261_64 m 2 (m.1 14 0)).bind fun r => some (q_sA r 14 (upd (r.1 14) 4 ((p + 1) &&& 4095)))) = _
    rw [q.1.2, b1]; rfl
theorem q_c135 (h : q_R TT x m) (hI : q_Iv c d w m) (p : Int32) : ∃ y m1, dz_N157_87_65 x 135 = some y ∧ dz_M272_64 m 135 p = some (q_sA m1 14 (upd (m1.1 14) 4 ((p + 1) &&& 4095))) ∧ q_R TT y m1 := by
  obtain ⟨A, X, Y, S, C, Z, I, D, V, N, q, rA, rX, rY, rS⟩ := q_cpu_of h hI
  obtain ⟨⟨b1, b2⟩, -, -⟩ := q_bec q (Y)
  obtain ⟨j1, j2, j3, j4, j5⟩ := q_jud q (Y)
  refine ⟨q_sI (dz_N150_87 x (Y)).1 23 0 (Y), _, ?_, ?_, q_R_C h (j4.trans (q_CX_k 0 (Y) rfl)) (j5.trans (q_CM_n 0 (Y) rfl)) b2⟩
  · show some (q_sI (dz_N150_87 x (x.2.1 23 2)).1 23 0 (dz_N150_87 x (x.2.1 23 2)).2) = _
    rw [q.2.2.1.1, j1]
  · show ((dz_M261_64 m 0 (m.1 14 2)).bind fun r => some (q_sA r 14 (upd (r.1 14) 4 ((p + 1) &&& 4095)))) = _
    rw [q.2.2.1.2, b1]; rfl
theorem q_c136 (h : q_R TT x m) (hI : q_Iv c d w m) (p : Int32) : ∃ y m1, dz_N157_87_65 x 136 = some y ∧ dz_M272_64 m 136 p = some (q_sA m1 14 (upd (m1.1 14) 4 ((p + 1) &&& 4095))) ∧ q_R TT y m1 := by
  obtain ⟨A, X, Y, S, C, Z, I, D, V, N, q, rA, rX, rY, rS⟩ := q_cpu_of h hI
  obtain ⟨-, ⟨b1, b2⟩, -⟩ := q_bec q (S)
  obtain ⟨j1, j2, j3, j4, j5⟩ := q_jud q (S)
  refine ⟨q_sI (dz_N150_87 x (S)).1 23 1 (S), _, ?_, ?_, q_R_C h (j4.trans (q_CX_k 1 (S) rfl)) (j5.trans (q_CM_n 1 (S) rfl)) b2⟩
  · show some (q_sI (dz_N150_87 x (x.2.1 23 3)).1 23 1 (dz_N150_87 x (x.2.1 23 3)).2) = _
    rw [q.2.2.2.1.1, j1]
  · show ((dz_M261_64 m 1 (m.1 14 3)).bind fun r => some (q_sA r 14 (upd (r.1 14) 4 ((p + 1) &&& 4095)))) = _
    rw [q.2.2.2.1.2, b1]; rfl
theorem q_c137 (h : q_R TT x m) (hI : q_Iv c d w m) (p : Int32) : ∃ y m1, dz_N157_87_65 x 137 = some y ∧ dz_M272_64 m 137 p = some (q_sA m1 14 (upd (m1.1 14) 4 ((p + 1) &&& 4095))) ∧ q_R TT y m1 := by
  obtain ⟨A, X, Y, S, C, Z, I, D, V, N, q, rA, rX, rY, rS⟩ := q_cpu_of h hI
  have t := q.ws X
  refine ⟨q_sI x 23 3 X, q_sA m 14 (upd (m.1 14) 3 X), ?_, ?_, q_R_C h (q_CX_k 3 X rfl) (q_CM_n 3 X rfl) t⟩
  · show some (q_sI x 23 3 (x.2.1 23 1)) = _
    rw [q.2.1.1]
  · show some (q_sA (q_sA m 14 (upd (m.1 14) 3 (m.1 14 1))) 14 (upd (upd (m.1 14) 3 (m.1 14 1)) 4 ((p + 1) &&& 4095))) = _
    rw [q.2.1.2]; rfl
theorem q_c138 (h : q_R TT x m) (hI : q_Iv c d w m) (p : Int32) : ∃ y m1, dz_N157_87_65 x 138 = some y ∧ dz_M272_64 m 138 p = some (q_sA m1 14 (upd (m1.1 14) 4 ((p + 1) &&& 4095))) ∧ q_R TT y m1 := by
  obtain ⟨A, X, Y, S, C, Z, I, D, V, N, q, rA, rX, rY, rS⟩ := q_cpu_of h hI
  obtain ⟨y, m1, a1, a2, a3, -⟩ := q_push h hI A rA
  refine ⟨y, m1, ?_, ?_, a3⟩
  · show ((dz_N146_87_65 x (x.2.1 23 0)).bind fun r177 => some r177) = _
    rw [q.1.1, a1]; rfl
  · show ((dz_M254_64 m (m.1 14 0)).bind fun r => some (q_sA r 14 (upd (r.1 14) 4 ((p + 1) &&& 4095)))) = _
    rw [q.1.2, a2]; rfl
theorem q_c139 (h : q_R TT x m) (hI : q_Iv c d w m) (p : Int32) : ∃ y m1, dz_N157_87_65 x 139 = some y ∧ dz_M272_64 m 139 p = some (q_sA m1 14 (upd (m1.1 14) 4 ((p + 1) &&& 4095))) ∧ q_R TT y m1 := by
  obtain ⟨A, X, Y, S, C, Z, I, D, V, N, q, rA, rX, rY, rS⟩ := q_cpu_of h hI
  obtain ⟨y, v, m1, a1, a2, a3, a4, a5, a6, a7⟩ := q_pull h hI
  obtain ⟨A', X', Y', S', C', Z', I', D', V', N', q', -⟩ := q_cpu_of a3 a4
  obtain ⟨⟨b1, b2⟩, -, -⟩ := q_bec q' v
  obtain ⟨j1, j2, j3, j4, j5⟩ := q_jud q' v
  refine ⟨q_sI (dz_N150_87 y v).1 23 0 v, _, ?_, ?_, q_R_C a3 (j4.trans (q_CX_k 0 v rfl)) (j5.trans (q_CM_n 0 v rfl)) b2⟩
  · show some (q_sI (dz_N150_87 (dz_N147_87_65 x).1 (dz_N147_87_65 x).2).1 23 0 (dz_N150_87 (dz_N147_87_65 x).1 (dz_N147_87_65 x).2).2) = _
    rw [a1, j1]
  · show ((dz_M255_64 m).bind fun r934 => (dz_M261_64 r934.1 0 r934.2).bind fun r => some (q_sA r 14 (upd (r.1 14) 4 ((p + 1) &&& 4095)))) = _
    rw [a2, Option.bind_some, b1]; rfl
theorem q_c142 (h : q_R TT x m) (hI : q_Iv c d w m) (p : Int32) : ∃ y m1, dz_N157_87_65 x 142 = some y ∧ dz_M272_64 m 142 p = some (q_sA m1 14 (upd (m1.1 14) 4 ((p + 1) &&& 4095))) ∧ q_R TT y m1 := by
  obtain ⟨A, X, Y, S, C, Z, I, D, V, N, q, rA, rX, rY, rS⟩ := q_cpu_of h hI
  obtain ⟨q1, q2, q3, q4, q5, q6, q7, q8, q9, q10, q11⟩ := q
  obtain ⟨f1, -⟩ := q_Ft C Z I D V N
  have n1 : vp_nar .boolean 1 = q_b true := by decide
  refine ⟨q_sI x 23 5 (q_F true Z I D V N), q_sA m 15 (upd (m.1 15) 5 (q_b true)), ?_, ?_, q_R_C h (q_CX_k 5 _ rfl) (q_CM_f 5 _ rfl) (⟨q1, q2, q3, q4, q_sIv _ _ _ _, rfl, q7, q8, q9, q10, q11⟩ : q_cpu A X Y S true Z I D V N (q_sI x 23 5 (q_F true Z I D V N)) (q_sA m 15 (upd (m.1 15) 5 (q_b true))))⟩
  · show some (q_sI x 23 5 ((x.2.1 23 5) ||| 1)) = _
    rw [q5, f1]
  · show some (q_sA (q_sA m 15 (upd (m.1 15) 5 (vp_nar .boolean 1))) 14 (upd (m.1 14) 4 ((p + 1) &&& 4095))) = _
    rw [n1]; rfl
theorem q_c143 (h : q_R TT x m) (hI : q_Iv c d w m) (p : Int32) : ∃ y m1, dz_N157_87_65 x 143 = some y ∧ dz_M272_64 m 143 p = some (q_sA m1 14 (upd (m1.1 14) 4 ((p + 1) &&& 4095))) ∧ q_R TT y m1 := by
  obtain ⟨A, X, Y, S, C, Z, I, D, V, N, q, rA, rX, rY, rS⟩ := q_cpu_of h hI
  obtain ⟨q1, q2, q3, q4, q5, q6, q7, q8, q9, q10, q11⟩ := q
  obtain ⟨-, f1, -⟩ := q_Ft C Z I D V N
  have n1 : vp_nar .boolean 0 = q_b false := by decide
  refine ⟨q_sI x 23 5 (q_F false Z I D V N), q_sA m 15 (upd (m.1 15) 5 (q_b false)), ?_, ?_, q_R_C h (q_CX_k 5 _ rfl) (q_CM_f 5 _ rfl) (⟨q1, q2, q3, q4, q_sIv _ _ _ _, rfl, q7, q8, q9, q10, q11⟩ : q_cpu A X Y S false Z I D V N (q_sI x 23 5 (q_F false Z I D V N)) (q_sA m 15 (upd (m.1 15) 5 (q_b false))))⟩
  · show some (q_sI x 23 5 ((x.2.1 23 5) &&& ((1 : Int32) ^^^ (-1)))) = _
    rw [q5, f1]
  · show some (q_sA (q_sA m 15 (upd (m.1 15) 5 (vp_nar .boolean 0))) 14 (upd (m.1 14) 4 ((p + 1) &&& 4095))) = _
    rw [n1]; rfl
theorem q_c144 (h : q_R TT x m) (hI : q_Iv c d w m) (p : Int32) : ∃ y m1, dz_N157_87_65 x 144 = some y ∧ dz_M272_64 m 144 p = some (q_sA m1 14 (upd (m1.1 14) 4 ((p + 1) &&& 4095))) ∧ q_R TT y m1 := by
  obtain ⟨A, X, Y, S, C, Z, I, D, V, N, q, rA, rX, rY, rS⟩ := q_cpu_of h hI
  obtain ⟨q1, q2, q3, q4, q5, q6, q7, q8, q9, q10, q11⟩ := q
  obtain ⟨-, -, f1, -⟩ := q_Ft C Z I D V N
  have n1 : vp_nar .boolean 1 = q_b true := by decide
  refine ⟨q_sI x 23 5 (q_F C Z I true V N), q_sA m 15 (upd (m.1 15) 2 (q_b true)), ?_, ?_, q_R_C h (q_CX_k 5 _ rfl) (q_CM_f 2 _ rfl) (⟨q1, q2, q3, q4, q_sIv _ _ _ _, q6, q7, q8, rfl, q10, q11⟩ : q_cpu A X Y S C Z I true V N (q_sI x 23 5 (q_F C Z I true V N)) (q_sA m 15 (upd (m.1 15) 2 (q_b true))))⟩
  · show some (q_sI x 23 5 ((x.2.1 23 5) ||| 8)) = _
    rw [q5, f1]
  · show some (q_sA (q_sA m 15 (upd (m.1 15) 2 (vp_nar .boolean 1))) 14 (upd (m.1 14) 4 ((p + 1) &&& 4095))) = _
    rw [n1]; rfl
theorem q_c145 (h : q_R TT x m) (hI : q_Iv c d w m) (p : Int32) : ∃ y m1, dz_N157_87_65 x 145 = some y ∧ dz_M272_64 m 145 p = some (q_sA m1 14 (upd (m1.1 14) 4 ((p + 1) &&& 4095))) ∧ q_R TT y m1 := by
  obtain ⟨A, X, Y, S, C, Z, I, D, V, N, q, rA, rX, rY, rS⟩ := q_cpu_of h hI
  obtain ⟨q1, q2, q3, q4, q5, q6, q7, q8, q9, q10, q11⟩ := q
  obtain ⟨-, -, -, f1, -⟩ := q_Ft C Z I D V N
  have n1 : vp_nar .boolean 0 = q_b false := by decide
  refine ⟨q_sI x 23 5 (q_F C Z I false V N), q_sA m 15 (upd (m.1 15) 2 (q_b false)), ?_, ?_, q_R_C h (q_CX_k 5 _ rfl) (q_CM_f 2 _ rfl) (⟨q1, q2, q3, q4, q_sIv _ _ _ _, q6, q7, q8, rfl, q10, q11⟩ : q_cpu A X Y S C Z I false V N (q_sI x 23 5 (q_F C Z I false V N)) (q_sA m 15 (upd (m.1 15) 2 (q_b false))))⟩
  · show some (q_sI x 23 5 ((x.2.1 23 5) &&& ((8 : Int32) ^^^ (-1)))) = _
    rw [q5, f1]
  · show some (q_sA (q_sA m 15 (upd (m.1 15) 2 (vp_nar .boolean 0))) 14 (upd (m.1 14) 4 ((p + 1) &&& 4095))) = _
    rw [n1]; rfl
theorem q_c146 (h : q_R TT x m) (hI : q_Iv c d w m) (p : Int32) : ∃ y m1, dz_N157_87_65 x 146 = some y ∧ dz_M272_64 m 146 p = some (q_sA m1 14 (upd (m1.1 14) 4 ((p + 1) &&& 4095))) ∧ q_R TT y m1 := by
  obtain ⟨A, X, Y, S, C, Z, I, D, V, N, q, rA, rX, rY, rS⟩ := q_cpu_of h hI
  obtain ⟨q1, q2, q3, q4, q5, q6, q7, q8, q9, q10, q11⟩ := q
  obtain ⟨-, -, -, -, f1, -⟩ := q_Ft C Z I D V N
  have n1 : vp_nar .boolean 1 = q_b true := by decide
  refine ⟨q_sI x 23 5 (q_F C Z true D V N), q_sA m 15 (upd (m.1 15) 3 (q_b true)), ?_, ?_, q_R_C h (q_CX_k 5 _ rfl) (q_CM_f 3 _ rfl) (⟨q1, q2, q3, q4, q_sIv _ _ _ _, q6, q7, rfl, q9, q10, q11⟩ : q_cpu A X Y S C Z true D V N (q_sI x 23 5 (q_F C Z true D V N)) (q_sA m 15 (upd (m.1 15) 3 (q_b true))))⟩
  · show some (q_sI x 23 5 ((x.2.1 23 5) ||| 4)) = _
    rw [q5, f1]
  · show some (q_sA (q_sA m 15 (upd (m.1 15) 3 (vp_nar .boolean 1))) 14 (upd (m.1 14) 4 ((p + 1) &&& 4095))) = _
    rw [n1]; rfl
theorem q_c147 (h : q_R TT x m) (hI : q_Iv c d w m) (p : Int32) : ∃ y m1, dz_N157_87_65 x 147 = some y ∧ dz_M272_64 m 147 p = some (q_sA m1 14 (upd (m1.1 14) 4 ((p + 1) &&& 4095))) ∧ q_R TT y m1 := by
  obtain ⟨A, X, Y, S, C, Z, I, D, V, N, q, rA, rX, rY, rS⟩ := q_cpu_of h hI
  obtain ⟨q1, q2, q3, q4, q5, q6, q7, q8, q9, q10, q11⟩ := q
  obtain ⟨-, -, -, -, -, f1, -⟩ := q_Ft C Z I D V N
  have n1 : vp_nar .boolean 0 = q_b false := by decide
  refine ⟨q_sI x 23 5 (q_F C Z false D V N), q_sA m 15 (upd (m.1 15) 3 (q_b false)), ?_, ?_, q_R_C h (q_CX_k 5 _ rfl) (q_CM_f 3 _ rfl) (⟨q1, q2, q3, q4, q_sIv _ _ _ _, q6, q7, rfl, q9, q10, q11⟩ : q_cpu A X Y S C Z false D V N (q_sI x 23 5 (q_F C Z false D V N)) (q_sA m 15 (upd (m.1 15) 3 (q_b false))))⟩
  · show some (q_sI x 23 5 ((x.2.1 23 5) &&& ((4 : Int32) ^^^ (-1)))) = _
    rw [q5, f1]
  · show some (q_sA (q_sA m 15 (upd (m.1 15) 3 (vp_nar .boolean 0))) 14 (upd (m.1 14) 4 ((p + 1) &&& 4095))) = _
    rw [n1]; rfl
theorem q_c148 (h : q_R TT x m) (hI : q_Iv c d w m) (p : Int32) : ∃ y m1, dz_N157_87_65 x 148 = some y ∧ dz_M272_64 m 148 p = some (q_sA m1 14 (upd (m1.1 14) 4 ((p + 1) &&& 4095))) ∧ q_R TT y m1 := by
  obtain ⟨A, X, Y, S, C, Z, I, D, V, N, q, rA, rX, rY, rS⟩ := q_cpu_of h hI
  obtain ⟨q1, q2, q3, q4, q5, q6, q7, q8, q9, q10, q11⟩ := q
  obtain ⟨-, -, -, -, -, -, -, f1, -⟩ := q_Ft C Z I D V N
  have n1 : vp_nar .boolean 0 = q_b false := by decide
  refine ⟨q_sI x 23 5 (q_F C Z I D false N), q_sA m 15 (upd (m.1 15) 1 (q_b false)), ?_, ?_, q_R_C h (q_CX_k 5 _ rfl) (q_CM_f 1 _ rfl) (⟨q1, q2, q3, q4, q_sIv _ _ _ _, q6, q7, q8, q9, rfl, q11⟩ : q_cpu A X Y S C Z I D false N (q_sI x 23 5 (q_F C Z I D false N)) (q_sA m 15 (upd (m.1 15) 1 (q_b false))))⟩
  · show some (q_sI x 23 5 ((x.2.1 23 5) &&& ((64 : Int32) ^^^ (-1)))) = _
    rw [q5, f1]
  · show some (q_sA (q_sA m 15 (upd (m.1 15) 1 (vp_nar .boolean 0))) 14 (upd (m.1 14) 4 ((p + 1) &&& 4095))) = _
    rw [n1]; rfl
theorem q_c149 (h : q_R TT x m) (hI : q_Iv c d w m) (p : Int32) : ∃ y m1, dz_N157_87_65 x 149 = some y ∧ dz_M272_64 m 149 p = some (q_sA m1 14 (upd (m1.1 14) 4 ((p + 1) &&& 4095))) ∧ q_R TT y m1 := by
  obtain ⟨A, X, Y, S, C, Z, I, D, V, N, q, rA, rX, rY, rS⟩ := q_cpu_of h hI
  exact ⟨x, m, rfl, rfl, h⟩
theorem q_c150 (h : q_R TT x m) (hI : q_Iv c d w m) (p : Int32) : ∃ y m1, dz_N157_87_65 x 150 = some y ∧ dz_M272_64 m 150 p = some (q_sA m1 14 (upd (m1.1 14) 4 ((p + 1) &&& 4095))) ∧ q_R TT y m1 := by
  obtain ⟨A, X, Y, S, C, Z, I, D, V, N, q, rA, rX, rY, rS⟩ := q_cpu_of h hI
  obtain ⟨m2, b1, b2, b3, b4⟩ := q_shg q (decide (127 < A)) ((2 * A) &&& 255)
  have e257 := q_257 q 1
  obtain ⟨f1, -⟩ := q_Fb C Z I D V N
  obtain ⟨s1, s2⟩ := q_sc q
  have sA : (cond (decide (127 < A)) (dz_N149_87_t x 1) (dz_N149_87_f x 1)).2.1 23 0 = A := by
    rw [s1, s2]
    cases decide (127 < A) <;> exact (q_sIn _ _ _ _ _ rfl).trans q.1.1
  have jX : ∀ s u, (dz_N150_87 s u).2 = u := fun s u => by
    unfold dz_N150_87
    cases decide (u = 0) <;> cases decide (127 < u) <;> rfl
  refine ⟨_, m2, ?_, ?_, q_R_C h b3 b4 b2⟩
  · show some (cond (decide (127 < x.2.1 23 0)) (q_sI (dz_N150_87 (dz_N149_87_t x 1) ((2 * ((dz_N149_87_t x 1).2.1 23 0)) &&& 255)).1 23 0 (dz_N150_87 (dz_N149_87_t x 1) ((2 * ((dz_N149_87_t x 1).2.1 23 0)) &&& 255)).2) (q_sI (dz_N150_87 (dz_N149_87_f x 1) ((2 * ((dz_N149_87_f x 1).2.1 23 0)) &&& 255)).1 23 0 (dz_N150_87 (dz_N149_87_f x 1) ((2 * ((dz_N149_87_f x 1).2.1 23 0)) &&& 255)).2)) = _
    rw [q.1.1]
    cases hb : decide (127 < A) with
    | true => rw [hb] at sA; rw [cond_true] at sA ⊢; rw [cond_true, sA, jX]
    | false => rw [hb] at sA; rw [cond_false] at sA ⊢; rw [cond_false, sA, jX]
  · have tM : dz_M271_64 m 150 = some m2 := by
      show ((dz_M256_64 m 5 1).bind fun r => cond (dz_M205 m (m.1 14 0) 7) ((dz_M261_64 (q_sA m 15 (upd (m.1 15) 5 (vp_nar .boolean 1))) 0 (((m.1 14 0) * 2) &&& 255)).bind fun r => some r) ((dz_M261_64 (q_sA m 15 (upd (m.1 15) 5 (vp_nar .boolean 0))) 0 (((m.1 14 0) * 2) &&& 255)).bind fun r => some r)) = _
      rw [e257, Option.bind_some, q.1.2, q_hi m rA, Int32.mul_comm A 2]
      cases hb : decide (127 < A) with
      | true =>
        rw [hb] at b1
        have b9 : dz_M261_64 (q_sA m 15 (upd (m.1 15) 5 (vp_nar .boolean 1))) 0 ((2 * A) &&& 255) = some m2 := b1
        rw [cond_true, b9]; rfl
      | false =>
        rw [hb] at b1
        have b9 : dz_M261_64 (q_sA m 15 (upd (m.1 15) 5 (vp_nar .boolean 0))) 0 ((2 * A) &&& 255) = some m2 := b1
        rw [cond_false, b9]; rfl
    show ((dz_M271_64 m 150).bind fun r => some (q_sA r 14 (upd (r.1 14) 4 ((p + 1) &&& 4095)))) = _
    rw [tM]; rfl
theorem q_c151 (h : q_R TT x m) (hI : q_Iv c d w m) (p : Int32) : ∃ y m1, dz_N157_87_65 x 151 = some y ∧ dz_M272_64 m 151 p = some (q_sA m1 14 (upd (m1.1 14) 4 ((p + 1) &&& 4095))) ∧ q_R TT y m1 := by
  obtain ⟨A, X, Y, S, C, Z, I, D, V, N, q, rA, rX, rY, rS⟩ := q_cpu_of h hI
  obtain ⟨m2, b1, b2, b3, b4⟩ := q_shg q (decide (A - A / 2 * 2 = 1)) (A / 2)
  have e257 := q_257 q 1
  obtain ⟨f1, -⟩ := q_Fb C Z I D V N
  obtain ⟨s1, s2⟩ := q_sc q
  have sA : (cond (decide (A - A / 2 * 2 = 1)) (dz_N149_87_t x 1) (dz_N149_87_f x 1)).2.1 23 0 = A := by
    rw [s1, s2]
    cases decide (A - A / 2 * 2 = 1) <;> exact (q_sIn _ _ _ _ _ rfl).trans q.1.1
  have jX : ∀ s u, (dz_N150_87 s u).2 = u := fun s u => by
    unfold dz_N150_87
    cases decide (u = 0) <;> cases decide (127 < u) <;> rfl
  refine ⟨_, m2, ?_, ?_, q_R_C h b3 b4 b2⟩
  · show some (cond (decide ((x.2.1 23 0) - (x.2.1 23 0) / 2 * 2 = 1)) (q_sI (dz_N150_87 (dz_N149_87_t x 1) (((dz_N149_87_t x 1).2.1 23 0) / 2)).1 23 0 (dz_N150_87 (dz_N149_87_t x 1) (((dz_N149_87_t x 1).2.1 23 0) / 2)).2) (q_sI (dz_N150_87 (dz_N149_87_f x 1) (((dz_N149_87_f x 1).2.1 23 0) / 2)).1 23 0 (dz_N150_87 (dz_N149_87_f x 1) (((dz_N149_87_f x 1).2.1 23 0) / 2)).2)) = _
    rw [q.1.1]
    cases hb : decide (A - A / 2 * 2 = 1) with
    | true => rw [hb] at sA; rw [cond_true] at sA ⊢; rw [cond_true, sA, jX]
    | false => rw [hb] at sA; rw [cond_false] at sA ⊢; rw [cond_false, sA, jX]
  · have tM : dz_M271_64 m 151 = some m2 := by
      show ((dz_M256_64 m 5 1).bind fun r => cond (dz_M205 m (m.1 14 0) 0) ((dz_M261_64 (q_sA m 15 (upd (m.1 15) 5 (vp_nar .boolean 1))) 0 ((m.1 14 0) / 2)).bind fun r => some r) ((dz_M261_64 (q_sA m 15 (upd (m.1 15) 5 (vp_nar .boolean 0))) 0 ((m.1 14 0) / 2)).bind fun r => some r)) = _
      rw [e257, Option.bind_some, q.1.2, q_loz m rA]
      cases hb : decide (A - A / 2 * 2 = 1) with
      | true =>
        rw [hb] at b1
        have b9 : dz_M261_64 (q_sA m 15 (upd (m.1 15) 5 (vp_nar .boolean 1))) 0 (A / 2) = some m2 := b1
        rw [cond_true, b9]; rfl
      | false =>
        rw [hb] at b1
        have b9 : dz_M261_64 (q_sA m 15 (upd (m.1 15) 5 (vp_nar .boolean 0))) 0 (A / 2) = some m2 := b1
        rw [cond_false, b9]; rfl
    show ((dz_M271_64 m 151).bind fun r => some (q_sA r 14 (upd (r.1 14) 4 ((p + 1) &&& 4095)))) = _
    rw [tM]; rfl
theorem q_c152 (h : q_R TT x m) (hI : q_Iv c d w m) (p : Int32) : ∃ y m1, dz_N157_87_65 x 152 = some y ∧ dz_M272_64 m 152 p = some (q_sA m1 14 (upd (m1.1 14) 4 ((p + 1) &&& 4095))) ∧ q_R TT y m1 := by
  obtain ⟨A, X, Y, S, C, Z, I, D, V, N, q, rA, rX, rY, rS⟩ := q_cpu_of h hI
  obtain ⟨m2, b1, b2, b3, b4⟩ := q_shg q (decide (127 < A)) (((2 * A) + q_b C) &&& 255)
  have e257 := q_257 q 1
  obtain ⟨f1, -⟩ := q_Fb C Z I D V N
  obtain ⟨s1, s2⟩ := q_sc q
  have sA : (cond (decide (127 < A)) (dz_N149_87_t x 1) (dz_N149_87_f x 1)).2.1 23 0 = A := by
    rw [s1, s2]
    cases decide (127 < A) <;> exact (q_sIn _ _ _ _ _ rfl).trans q.1.1
  have jX : ∀ s u, (dz_N150_87 s u).2 = u := fun s u => by
    unfold dz_N150_87
    cases decide (u = 0) <;> cases decide (127 < u) <;> rfl
  refine ⟨_, m2, ?_, ?_, q_R_C h b3 b4 b2⟩
  · show some (cond (decide (127 < x.2.1 23 0)) (q_sI (dz_N150_87 (dz_N149_87_t x 1) (((2 * ((dz_N149_87_t x 1).2.1 23 0)) + ((x.2.1 23 5) &&& 1)) &&& 255)).1 23 0 (dz_N150_87 (dz_N149_87_t x 1) (((2 * ((dz_N149_87_t x 1).2.1 23 0)) + ((x.2.1 23 5) &&& 1)) &&& 255)).2) (q_sI (dz_N150_87 (dz_N149_87_f x 1) (((2 * ((dz_N149_87_f x 1).2.1 23 0)) + ((x.2.1 23 5) &&& 1)) &&& 255)).1 23 0 (dz_N150_87 (dz_N149_87_f x 1) (((2 * ((dz_N149_87_f x 1).2.1 23 0)) + ((x.2.1 23 5) &&& 1)) &&& 255)).2)) = _
    rw [q.1.1, q.2.2.2.2.1, f1]
    cases hb : decide (127 < A) with
    | true => rw [hb] at sA; rw [cond_true] at sA ⊢; rw [cond_true, sA, jX]
    | false => rw [hb] at sA; rw [cond_false] at sA ⊢; rw [cond_false, sA, jX]
  · have tM : dz_M271_64 m 152 = some m2 := by
      show ((dz_M256_64 m 5 1).bind fun r => cond (dz_M205 m (m.1 14 0) 7) ((dz_M261_64 (q_sA m 15 (upd (m.1 15) 5 (vp_nar .boolean 1))) 0 ((((m.1 14 0) * 2) + r) &&& 255)).bind fun r => some r) ((dz_M261_64 (q_sA m 15 (upd (m.1 15) 5 (vp_nar .boolean 0))) 0 ((((m.1 14 0) * 2) + r) &&& 255)).bind fun r => some r)) = _
      rw [e257, Option.bind_some, q.1.2, q_hi m rA, Int32.mul_comm A 2, show (cond C (1 : Int32) 0) = q_b C from rfl]
      cases hb : decide (127 < A) with
      | true =>
        rw [hb] at b1
        have b9 : dz_M261_64 (q_sA m 15 (upd (m.1 15) 5 (vp_nar .boolean 1))) 0 (((2 * A) + q_b C) &&& 255) = some m2 := b1
        rw [cond_true, b9]; rfl
      | false =>
        rw [hb] at b1
        have b9 : dz_M261_64 (q_sA m 15 (upd (m.1 15) 5 (vp_nar .boolean 0))) 0 (((2 * A) + q_b C) &&& 255) = some m2 := b1
        rw [cond_false, b9]; rfl
    show ((dz_M271_64 m 152).bind fun r => some (q_sA r 14 (upd (r.1 14) 4 ((p + 1) &&& 4095)))) = _
    rw [tM]; rfl
theorem q_c153 (h : q_R TT x m) (hI : q_Iv c d w m) (p : Int32) : ∃ y m1, dz_N157_87_65 x 153 = some y ∧ dz_M272_64 m 153 p = some (q_sA m1 14 (upd (m1.1 14) 4 ((p + 1) &&& 4095))) ∧ q_R TT y m1 := by
  obtain ⟨A, X, Y, S, C, Z, I, D, V, N, q, rA, rX, rY, rS⟩ := q_cpu_of h hI
  obtain ⟨m2, b1, b2, b3, b4⟩ := q_shg q (decide (A - A / 2 * 2 = 1)) ((A / 2) + (128 * q_b C))
  have e257 := q_257 q 1
  obtain ⟨f1, -⟩ := q_Fb C Z I D V N
  obtain ⟨s1, s2⟩ := q_sc q
  have sA : (cond (decide (A - A / 2 * 2 = 1)) (dz_N149_87_t x 1) (dz_N149_87_f x 1)).2.1 23 0 = A := by
    rw [s1, s2]
    cases decide (A - A / 2 * 2 = 1) <;> exact (q_sIn _ _ _ _ _ rfl).trans q.1.1
  have jX : ∀ s u, (dz_N150_87 s u).2 = u := fun s u => by
    unfold dz_N150_87
    cases decide (u = 0) <;> cases decide (127 < u) <;> rfl
  refine ⟨_, m2, ?_, ?_, q_R_C h b3 b4 b2⟩
  · show some (cond (decide ((x.2.1 23 0) - (x.2.1 23 0) / 2 * 2 = 1)) (q_sI (dz_N150_87 (dz_N149_87_t x 1) ((((dz_N149_87_t x 1).2.1 23 0) / 2) + (128 * ((x.2.1 23 5) &&& 1)))).1 23 0 (dz_N150_87 (dz_N149_87_t x 1) ((((dz_N149_87_t x 1).2.1 23 0) / 2) + (128 * ((x.2.1 23 5) &&& 1)))).2) (q_sI (dz_N150_87 (dz_N149_87_f x 1) ((((dz_N149_87_f x 1).2.1 23 0) / 2) + (128 * ((x.2.1 23 5) &&& 1)))).1 23 0 (dz_N150_87 (dz_N149_87_f x 1) ((((dz_N149_87_f x 1).2.1 23 0) / 2) + (128 * ((x.2.1 23 5) &&& 1)))).2)) = _
    rw [q.1.1, q.2.2.2.2.1, f1]
    cases hb : decide (A - A / 2 * 2 = 1) with
    | true => rw [hb] at sA; rw [cond_true] at sA ⊢; rw [cond_true, sA, jX]
    | false => rw [hb] at sA; rw [cond_false] at sA ⊢; rw [cond_false, sA, jX]
  · have tM : dz_M271_64 m 153 = some m2 := by
      show ((dz_M256_64 m 5 1).bind fun r => cond (dz_M205 m (m.1 14 0) 0) ((dz_M261_64 (q_sA m 15 (upd (m.1 15) 5 (vp_nar .boolean 1))) 0 (((m.1 14 0) / 2) + (128 * r))).bind fun r => some r) ((dz_M261_64 (q_sA m 15 (upd (m.1 15) 5 (vp_nar .boolean 0))) 0 (((m.1 14 0) / 2) + (128 * r))).bind fun r => some r)) = _
      rw [e257, Option.bind_some, q.1.2, q_loz m rA, show (cond C (1 : Int32) 0) = q_b C from rfl]
      cases hb : decide (A - A / 2 * 2 = 1) with
      | true =>
        rw [hb] at b1
        have b9 : dz_M261_64 (q_sA m 15 (upd (m.1 15) 5 (vp_nar .boolean 1))) 0 ((A / 2) + (128 * q_b C)) = some m2 := b1
        rw [cond_true, b9]; rfl
      | false =>
        rw [hb] at b1
        have b9 : dz_M261_64 (q_sA m 15 (upd (m.1 15) 5 (vp_nar .boolean 0))) 0 ((A / 2) + (128 * q_b C)) = some m2 := b1
        rw [cond_false, b9]; rfl
    show ((dz_M271_64 m 153).bind fun r => some (q_sA r 14 (upd (r.1 14) 4 ((p + 1) &&& 4095)))) = _
    rw [tM]; rfl
end
