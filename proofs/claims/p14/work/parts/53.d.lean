section
section
variable {TT : (Nat → Int32) → Int32 → (Nat → Int32) → Int32 → Int64 → Int64 → List Int32 → List (Nat → Int32) → (Nat → Int64) → Prop} {x y z m : q_S} {c d w : Int} {A X Y S : Int32} {C Z I D V N : Bool}
theorem q_cpu.fl {C' : Bool} (q : q_cpu A X Y S C Z I D V N x m) : q_cpu A X Y S C' Z I D V N (q_sI x 23 5 (q_F C' Z I D V N)) (q_sA m 15 (upd (m.1 15) 5 (q_b C'))) ∧ q_CX x (q_sI x 23 5 (q_F C' Z I D V N)) ∧ q_CM m (q_sA m 15 (upd (m.1 15) 5 (q_b C'))) := by
  obtain ⟨q1, q2, q3, q4, q5, q6, q7, q8, q9, q10, q11⟩ := q
  exact ⟨⟨q1, q2, q3, q4, rfl, rfl, q7, q8, q9, q10, q11⟩, q_CX_k 5 _ rfl, q_CM_f 5 _ rfl⟩
/-- the carry set or cleared -/
theorem q_sc (q : q_cpu A X Y S C Z I D V N x m) : dz_N149_87_t x 1 = q_sI x 23 5 (q_F true Z I D V N) ∧ dz_N149_87_f x 1 = q_sI x 23 5 (q_F false Z I D V N) := by
  obtain ⟨q1, q2, q3, q4, q5, q6, q7, q8, q9, q10, q11⟩ := q
  obtain ⟨f1, f2, -⟩ := q_Ft C Z I D V N
  unfold dz_N149_87_t dz_N149_87_f
  rw [q5, f1, f2]
  exact ⟨rfl, rfl⟩
theorem q_cmp (q : q_cpu A X Y S C Z I D V N x m) (a v : Int32) : ∃ y m2, dz_N151_87 x a v = y ∧ (cond (decide (a < v)) (q_let (dz_M260_64 (q_sA m 15 (upd (m.1 15) 5 (vp_nar .boolean 0))) ((a - v) &&& 255)) fun r995 => some r995.1) (q_let (dz_M260_64 (q_sA m 15 (upd (m.1 15) 5 (vp_nar .boolean 1))) ((a - v) &&& 255)) fun r996 => some r996.1)) = some m2 ∧ q_cpu A X Y S (!decide (a < v)) (decide ((a - v) &&& 255 = 0)) I D V (decide (127 < (a - v) &&& 255)) y m2 ∧ q_CX x y ∧ q_CM m m2 := by
  obtain ⟨s1, s2⟩ := q_sc q
  have n1 : vp_nar .boolean 1 = q_b true := by decide
  have n0 : vp_nar .boolean 0 = q_b false := by decide
  unfold dz_N151_87 q_let
  rw [s1, s2, n1, n0]
  cases decide (a < v) with
  | true =>
    obtain ⟨t1, t2, t3⟩ := q.fl (C' := false)
    obtain ⟨j1, j2, j3, j4, j5⟩ := q_jud t1 ((a - v) &&& 255)
    exact ⟨_, _, rfl, rfl, j3, t2.trans j4, t3.trans j5⟩
  | false =>
    obtain ⟨t1, t2, t3⟩ := q.fl (C' := true)
    obtain ⟨j1, j2, j3, j4, j5⟩ := q_jud t1 ((a - v) &&& 255)
    exact ⟨_, _, rfl, rfl, j3, t2.trans j4, t3.trans j5⟩
/-- numbers 0 to 3 set -/
theorem q_cpu.wa (q : q_cpu A X Y S C Z I D V N x m) (v : Int32) : q_cpu v X Y S C Z I D V N (q_sI x 23 0 v) (q_sA m 14 (upd (m.1 14) 0 v)) := by
  obtain ⟨q1, q2, q3, q4, q5, q6, q7, q8, q9, q10, q11⟩ := q
  exact ⟨⟨rfl, rfl⟩, q2, q3, q4, q5, q6, q7, q8, q9, q10, q11⟩
theorem q_cpu.wx (q : q_cpu A X Y S C Z I D V N x m) (v : Int32) : q_cpu A v Y S C Z I D V N (q_sI x 23 1 v) (q_sA m 14 (upd (m.1 14) 1 v)) := by
  obtain ⟨q1, q2, q3, q4, q5, q6, q7, q8, q9, q10, q11⟩ := q
  exact ⟨q1, ⟨rfl, rfl⟩, q3, q4, q5, q6, q7, q8, q9, q10, q11⟩
theorem q_cpu.wy (q : q_cpu A X Y S C Z I D V N x m) (v : Int32) : q_cpu A X v S C Z I D V N (q_sI x 23 2 v) (q_sA m 14 (upd (m.1 14) 2 v)) := by
  obtain ⟨q1, q2, q3, q4, q5, q6, q7, q8, q9, q10, q11⟩ := q
  exact ⟨q1, q2, ⟨rfl, rfl⟩, q4, q5, q6, q7, q8, q9, q10, q11⟩
theorem q_cpu.ws (q : q_cpu A X Y S C Z I D V N x m) (v : Int32) : q_cpu A X Y v C Z I D V N (q_sI x 23 3 v) (q_sA m 14 (upd (m.1 14) 3 v)) := by
  obtain ⟨q1, q2, q3, q4, q5, q6, q7, q8, q9, q10, q11⟩ := q
  exact ⟨q1, q2, q3, ⟨rfl, rfl⟩, q5, q6, q7, q8, q9, q10, q11⟩
/-- a word of the processor becomes a result -/
theorem q_bec (q : q_cpu A X Y S C Z I D V N x m) (v : Int32) : (dz_M261_64 m 0 v = some (q_sA (dz_M260_64 m v).1 14 (upd ((dz_M260_64 m v).1.1 14) 0 v)) ∧ q_cpu v X Y S C (decide (v = 0)) I D V (decide (127 < v)) (q_sI (dz_N150_87 x v).1 23 0 v) (q_sA (dz_M260_64 m v).1 14 (upd ((dz_M260_64 m v).1.1 14) 0 v))) ∧ (dz_M261_64 m 1 v = some (q_sA (dz_M260_64 m v).1 14 (upd ((dz_M260_64 m v).1.1 14) 1 v)) ∧ q_cpu A v Y S C (decide (v = 0)) I D V (decide (127 < v)) (q_sI (dz_N150_87 x v).1 23 1 v) (q_sA (dz_M260_64 m v).1 14 (upd ((dz_M260_64 m v).1.1 14) 1 v))) ∧ (dz_M261_64 m 2 v = some (q_sA (dz_M260_64 m v).1 14 (upd ((dz_M260_64 m v).1.1 14) 2 v)) ∧ q_cpu A X v S C (decide (v = 0)) I D V (decide (127 < v)) (q_sI (dz_N150_87 x v).1 23 2 v) (q_sA (dz_M260_64 m v).1 14 (upd ((dz_M260_64 m v).1.1 14) 2 v))) := by
  obtain ⟨j1, j2, j3, j4, j5⟩ := q_jud q v
  refine ⟨⟨?_, j3.wa v⟩, ⟨?_, j3.wx v⟩, ⟨?_, j3.wy v⟩⟩
  · unfold dz_M261_64 q_let
    dsimp only
    rw [j2]; rfl
  · unfold dz_M261_64 q_let
    dsimp only
    rw [j2]; rfl
  · unfold dz_M261_64 q_let
    dsimp only
    rw [j2]; rfl
theorem q_257 (q : q_cpu A X Y S C Z I D V N x m) (v : Int32) : dz_M256_64 m 5 v = some (cond C v 0) := by
  obtain ⟨q1, q2, q3, q4, q5, q6, q7, q8, q9, q10, q11⟩ := q
  show cond (decide (m.1 15 5 = 0)) (some 0) (some v) = _
  rw [q6]
  cases C <;> rfl
/-- the binary sum -/
theorem q_bin (q : q_cpu A X Y S C Z I D V N x m) (hA : q_rgz 0 255 A) {v : Int32} (hv : q_rgz 0 255 v) : ∃ y m2 C' V', dz_N156_87 x v = y ∧ dz_M263_64 m v = some m2 ∧ q_cpu (((A + v) + q_b C) &&& 255) X Y S C' (decide (((A + v) + q_b C) &&& 255 = 0)) I D V' (decide (127 < ((A + v) + q_b C) &&& 255)) y (q_sA (q_sA m2 15 (upd (m2.1 15) 4 (q_b (decide (((A + v) + q_b C) &&& 255 = 0))))) 15 (upd (upd (m2.1 15) 4 (q_b (decide (((A + v) + q_b C) &&& 255 = 0)))) 0 (q_b (decide (127 < ((A + v) + q_b C) &&& 255))))) ∧ q_CX x y ∧ q_CM m m2 ∧ m2.1 14 0 = ((A + v) + q_b C) &&& 255 ∧ m2.1 15 2 = q_b D := by
  have e257 := q_257 q 1
  have c1 : cond C (1 : Int32) 0 = q_b C := rfl
  rw [c1] at e257
  have qq := q
  obtain ⟨q1, q2, q3, q4, q5, q6, q7, q8, q9, q10, q11⟩ := q
  obtain ⟨b1, b2, -⟩ := q_Fb C Z I D V N
  have n1 : vp_nar .boolean 1 = q_b true := by decide
  have n0 : vp_nar .boolean 0 = q_b false := by decide
  have a0 := hA.1
  have a1 := hA.2
  have v0 := hv.1
  have v1 := hv.2
  have bc : 0 ≤ (q_b C).toInt ∧ (q_b C).toInt ≤ 1 := by cases C <;> decide
  have s1 : (A + v).toInt = A.toInt + v.toInt := q_addI ⟨by omega, by omega⟩ ⟨by omega, by omega⟩
  have s2 : ((A + v) + q_b C).toInt = A.toInt + v.toInt + (q_b C).toInt := by rw [q_addI ⟨by omega, by omega⟩ ⟨by omega, by omega⟩, s1]
  have em : ((A + v) + q_b C) - ((A + v) + q_b C) / 256 * 256 = ((A + v) + q_b C) &&& 255 := q_m8z (u := 511) ⟨by omega, by omega⟩
  unfold dz_N156_87 dz_M263_64
  rw [e257, Option.bind_some, q1.1, q1.2, q5, b1, em, n1, n0]
  generalize (A + v) + q_b C = S9 at *
  unfold dz_N149_87_t dz_N149_87_f q_let
  dsimp only
  rw [q5]
  obtain ⟨f1, f2, f3, f4, f5, f6, f7, f8, f9⟩ := q_Ft C Z I D V N
  rw [f7, f8]
  have jt : ∀ (C' V' : Bool), (dz_N150_87 (q_sI (q_sI x 23 5 (q_F C Z I D V' N)) 23 5 (q_F C' Z I D V' N)) (S9 &&& 255)) = (q_sI (q_sI (q_sI x 23 5 (q_F C Z I D V' N)) 23 5 (q_F C' Z I D V' N)) 23 5 (q_F C' (decide (S9 &&& 255 = 0)) I D V' (decide (127 < S9 &&& 255))), S9 &&& 255) := fun C' V' => by
    obtain ⟨j1, j2, j3, j4⟩ := q_Fj C' Z I D V' N
    unfold dz_N150_87
    show (cond (decide (S9 &&& 255 = 0)) (cond (decide (127 < S9 &&& 255)) (q_sI _ 23 5 (((q_F C' Z I D V' N &&& (-131)) ||| 2) ||| 128), S9 &&& 255) (q_sI _ 23 5 (((q_F C' Z I D V' N &&& (-131)) ||| 2) ||| 0), S9 &&& 255)) (cond (decide (127 < S9 &&& 255)) (q_sI _ 23 5 (((q_F C' Z I D V' N &&& (-131)) ||| 0) ||| 128), S9 &&& 255) (q_sI _ 23 5 (((q_F C' Z I D V' N &&& (-131)) ||| 0) ||| 0), S9 &&& 255))) = _
    rw [j1, j2, j3, j4]
    cases decide (S9 &&& 255 = 0) <;> cases decide (127 < S9 &&& 255) <;> rfl
  have g : ∀ V', (q_F C Z I D V' N ||| 1 = q_F true Z I D V' N) ∧ (q_F C Z I D V' N &&& ((1 : Int32) ^^^ (-1)) = q_F false Z I D V' N) := fun V' => ⟨(q_Ft C Z I D V' N).1, (q_Ft C Z I D V' N).2.1⟩
  have e5 : ∀ v9 : Int32, (q_sI x 23 5 v9).2.1 23 5 = v9 := fun _ => rfl
  simp only [e5, (g true).1, (g true).2, (g false).1, (g false).2, jt]
  have cx : ∀ a b e : Int32, q_CX x (q_sI (q_sI (q_sI (q_sI x 23 5 a) 23 5 b) 23 5 e) 23 0 (S9 &&& 255)) := fun a b e => (((q_CX_k 5 a rfl).trans (q_CX_k 5 b rfl)).trans (q_CX_k 5 e rfl)).trans (q_CX_k 0 _ rfl)
  cases decide (((A ^^^ S9) &&& (v ^^^ S9)) &&& 128 = 0) with
  | true =>
    cases decide (255 < S9) with
    | true => exact ⟨_, _, true, false, rfl, rfl, ⟨⟨rfl, rfl⟩, q2, q3, q4, rfl, rfl, rfl, q8, q9, rfl, rfl⟩, cx _ _ _, ((q_CM_f 1 _ rfl).trans (q_CM_f 5 _ rfl)).trans (q_CM_n 0 _ rfl), rfl, q9⟩
    | false => exact ⟨_, _, false, false, rfl, rfl, ⟨⟨rfl, rfl⟩, q2, q3, q4, rfl, rfl, rfl, q8, q9, rfl, rfl⟩, cx _ _ _, ((q_CM_f 1 _ rfl).trans (q_CM_f 5 _ rfl)).trans (q_CM_n 0 _ rfl), rfl, q9⟩
  | false =>
    cases decide (255 < S9) with
    | true => exact ⟨_, _, true, true, rfl, rfl, ⟨⟨rfl, rfl⟩, q2, q3, q4, rfl, rfl, rfl, q8, q9, rfl, rfl⟩, cx _ _ _, ((q_CM_f 1 _ rfl).trans (q_CM_f 5 _ rfl)).trans (q_CM_n 0 _ rfl), rfl, q9⟩
    | false => exact ⟨_, _, false, true, rfl, rfl, ⟨⟨rfl, rfl⟩, q2, q3, q4, rfl, rfl, rfl, q8, q9, rfl, rfl⟩, cx _ _ _, ((q_CM_f 1 _ rfl).trans (q_CM_f 5 _ rfl)).trans (q_CM_n 0 _ rfl), rfl, q9⟩
end
end
section
section
variable {TT : (Nat → Int32) → Int32 → (Nat → Int32) → Int32 → Int64 → Int64 → List Int32 → List (Nat → Int32) → (Nat → Int64) → Prop} {x y z m : q_S} {c d w : Int} {A X Y S : Int32} {C Z I D V N : Bool}
theorem q_261 (m : q_S) (v : Int32) : (dz_M260_64 m v).1 = q_sA (q_sA m 15 (upd (m.1 15) 4 (q_b (decide (v = 0))))) 15 (upd (upd (m.1 15) 4 (q_b (decide (v = 0)))) 0 (q_b (decide (127 < v)))) := by
  have n1 : vp_nar .boolean 1 = q_b true := by decide
  have n0 : vp_nar .boolean 0 = q_b false := by decide
  unfold dz_M260_64 q_let
  rw [n1, n0]
  cases decide (v = 0) <;> cases decide (127 < v) <;> rfl
theorem q_sIv (s : q_S) (i k : Nat) (v : Int32) : (q_sI s i k v).2.1 i k = v := by
  show cond (Nat.beq i i) (cond (Nat.beq k k) v (s.2.1 i k)) (s.2.1 i k) = v
  rw [Nat.beq_refl, Nat.beq_refl]; rfl
theorem q_sIn (s : q_S) (i k j : Nat) (v : Int32) (h : Nat.beq j k = false) : (q_sI s i k v).2.1 i j = s.2.1 i j := by
  show cond (Nat.beq i i) (cond (Nat.beq j k) v (s.2.1 i j)) (s.2.1 i j) = _
  rw [Nat.beq_refl, h]; rfl
theorem q_150 {s : q_S} (hs : s.2.1 23 5 = q_F C Z I D V N) (v : Int32) : dz_N150_87 s v = (q_sI s 23 5 (q_F C (decide (v = 0)) I D V (decide (127 < v))), v) := by
  obtain ⟨j1, j2, j3, j4⟩ := q_Fj C Z I D V N
  unfold dz_N150_87
  rw [hs, j1, j2, j3, j4]
  cases decide (v = 0) <;> cases decide (127 < v) <;> rfl
/-- what follows a decimal sum: the carry, the result -/
theorem q_fin {a A2 : Int32} {m2 : q_S} (c2 : Bool) (q : q_cpu a X Y S C Z I D V N y (dz_M260_64 m2 a).1) : q_cpu A2 X Y S c2 (decide (A2 = 0)) I D V (decide (127 < A2)) (q_sI (dz_N150_87 (cond c2 (dz_N149_87_t y 1) (dz_N149_87_f y 1)) A2).1 23 0 (dz_N150_87 (cond c2 (dz_N149_87_t y 1) (dz_N149_87_f y 1)) A2).2) (dz_M260_64 (q_sA (q_sA m2 15 (upd (m2.1 15) 5 (q_b c2))) 14 (upd (m2.1 14) 0 A2)) A2).1 ∧ q_CX y (q_sI (dz_N150_87 (cond c2 (dz_N149_87_t y 1) (dz_N149_87_f y 1)) A2).1 23 0 (dz_N150_87 (cond c2 (dz_N149_87_t y 1) (dz_N149_87_f y 1)) A2).2) ∧ q_CM m2 (dz_M260_64 (q_sA (q_sA m2 15 (upd (m2.1 15) 5 (q_b c2))) 14 (upd (m2.1 14) 0 A2)) A2).1 := by
  obtain ⟨s1, s2⟩ := q_sc q
  rw [s1, s2, show (cond c2 (q_sI y 23 5 (q_F true Z I D V N)) (q_sI y 23 5 (q_F false Z I D V N))) = q_sI y 23 5 (q_F c2 Z I D V N) by cases c2 <;> rfl]
  rw [q_261] at q
  obtain ⟨q1, q2, q3, q4, q5, q6, q7, q8, q9, q10, q11⟩ := q
  have jt := q_150 (s := q_sI y 23 5 (q_F c2 Z I D V N)) (q_sIv _ _ _ _) A2
  rw [jt, q_261]
  have hN : ∀ k, Nat.beq k 5 = false → Nat.beq k 0 = false → (q_sI (q_sI (q_sI y 23 5 (q_F c2 Z I D V N)) 23 5 (q_F c2 (decide (A2 = 0)) I D V (decide (127 < A2)))) 23 0 A2).2.1 23 k = y.2.1 23 k := fun k h5 h0 => (q_sIn _ _ _ _ _ h0).trans ((q_sIn _ _ _ _ _ h5).trans (q_sIn _ _ _ _ _ h5))
  have e14 : ∀ (s : q_S) (f g : Nat → Int32), (q_sA (q_sA s 15 f) 15 g).1 14 = s.1 14 := fun s f g => (q_sA2 _ _ rfl).trans (q_sA2 _ _ rfl)
  have e15 : ∀ (s : q_S) (f g : Nat → Int32), (q_sA (q_sA s 15 f) 15 g).1 15 = g := fun s f g => q_sA1 _ _ _
  rw [e14] at q1 q2 q3 q4
  rw [e15] at q6 q7 q8 q9 q10 q11
  have m14 : (q_sA (q_sA m2 15 (upd (m2.1 15) 5 (q_b c2))) 14 (upd (m2.1 14) 0 A2)).1 14 = upd (m2.1 14) 0 A2 := q_sA1 _ _ _
  have m15 : (q_sA (q_sA m2 15 (upd (m2.1 15) 5 (q_b c2))) 14 (upd (m2.1 14) 0 A2)).1 15 = upd (m2.1 15) 5 (q_b c2) := (q_sA2 _ _ rfl).trans (q_sA1 _ _ _)
  refine ⟨?_, ((q_CX_k 5 _ rfl).trans (q_CX_k 5 _ rfl)).trans (q_CX_k 0 _ rfl), (((q_CM_f 5 _ rfl).trans (q_CM_n 0 _ rfl)).trans (q_CM_f 4 _ rfl)).trans (q_CM_f 0 _ rfl)⟩
  unfold q_cpu
  rw [e14, e15, m14, m15, hN 1 rfl rfl, hN 2 rfl rfl, hN 3 rfl rfl]
  refine ⟨⟨q_sIv _ _ _ _, q_upE _ _ rfl⟩, ⟨q2.1, (q_upN _ _ (by decide)).trans q2.2⟩, ⟨q3.1, (q_upN _ _ (by decide)).trans q3.2⟩, ⟨q4.1, (q_upN _ _ (by decide)).trans q4.2⟩, (q_sIn _ _ _ _ _ rfl).trans (q_sIv _ _ _ _), ?_, ?_, ?_, ?_, ?_, q_upE _ _ rfl⟩
  · exact (q_upN _ _ (by decide)).trans ((q_upN _ _ (by decide)).trans (q_upE _ _ rfl))
  · exact (q_upN _ _ (by decide)).trans (q_upE _ _ rfl)
  · rw [q_upN _ _ (by decide), q_upN _ _ (by decide)] at q8; exact (q_upN _ _ (by decide)).trans ((q_upN _ _ (by decide)).trans ((q_upN _ _ (by decide)).trans q8))
  · rw [q_upN _ _ (by decide), q_upN _ _ (by decide)] at q9; exact (q_upN _ _ (by decide)).trans ((q_upN _ _ (by decide)).trans ((q_upN _ _ (by decide)).trans q9))
  · rw [q_upN _ _ (by decide), q_upN _ _ (by decide)] at q10; exact (q_upN _ _ (by decide)).trans ((q_upN _ _ (by decide)).trans ((q_upN _ _ (by decide)).trans q10))
theorem q_mn10 (a : Int32) : a + (-10) = a - 10 := by first | (rw [Int32.sub_eq_add_neg]; done) | (rw [Int32.sub_eq_add_neg]; rfl)
theorem q_mn1z (a : Int32) : a + (-1) = a - 1 := by first | (rw [Int32.sub_eq_add_neg]; done) | (rw [Int32.sub_eq_add_neg]; rfl)
theorem q_s0' (a : Int32) : a - 0 = a := Int32.sub_zero a
/-- a sum, binary or decimal -/
theorem q_adc (q : q_cpu A X Y S C Z I D V N x m) (hA : q_rgz 0 255 A) {v : Int32} (hv : q_rgz 0 255 v) : ∃ m2 A' C' Z' V' N', dz_M266_64_t m v = some m2 ∧ q_cpu A' X Y S C' Z' I D V' N' (dz_N154_87 x v) m2 ∧ q_CX x (dz_N154_87 x v) ∧ q_CM m m2 := by
  obtain ⟨y, m1, C1, V1, b1, b2, b3, b4, b5, b6, b7⟩ := q_bin q hA hv
  have e257 := q_257 q 1
  obtain ⟨t1, t2, t3⟩ := q_Fb C Z I D V N
  have qx := q.1.1
  have qm := q.1.2
  have q5 := q.2.2.2.2.1
  rw [← q_261] at b3
  have y5 := b3.2.2.2.2.1
  obtain ⟨u1, u2, u3⟩ := q_Fb C1 (decide (((A + v) + q_b C) &&& 255 = 0)) I D V1 (decide (127 < ((A + v) + q_b C) &&& 255))
  have n1 : vp_nar .boolean 1 = q_b true := by decide
  have n0 : vp_nar .boolean 0 = q_b false := by decide
  unfold dz_M266_64_t dz_N154_87 q_let
  dsimp only
  rw [e257, Option.bind_some, b2, Option.bind_some, b1, qx, qm, q5, t1, y5, u2, b7]
  have c1 : cond C (1 : Int32) 0 = q_b C := rfl
  rw [c1]
  cases D with
  | false =>
    refine ⟨(dz_M260_64 m1 (m1.1 14 0)).1, _, _, _, _, _, ?_, by rw [b6]; exact b3, b4, b5.trans ?_⟩
    · show (dz_M266_64_t_56 m1 v A (q_b C)) = _
      unfold dz_M266_64_t_56 q_let
      rw [b7]; rfl
    · rw [q_261]; exact (q_CM_f 4 _ rfl).trans (q_CM_f 0 _ rfl)
  | true =>
    show ∃ m2 A' C' Z' V' N', some (dz_M260_64 (dz_M264_64 m1 A v (q_b C)) ((dz_M264_64 m1 A v (q_b C)).1 14 0)).1 = some m2 ∧ _
    unfold dz_M264_64 dz_N154_87_64 q_let
    rw [n1, n0]
    simp only [q_mn10]
    simp only [Int32.add_zero, Int32.sub_zero]
    generalize (A - A / 16 * 16) + (v - v / 16 * 16) + q_b C = lo
    generalize (A / 16) + (v / 16) = hi
    cases decide (9 < lo) with
    | true =>
      cases decide (9 < hi + 1) with
      | true =>
        obtain ⟨f1, f2, f3⟩ := q_fin (A2 := ((16 * (hi + 1 - 10)) + (lo - 10)) &&& 255) true b3
        simp only [cond_true, cond_false] at f1 f2
        refine ⟨_, _, _, _, _, _, ?_, f1, b4.trans f2, b5.trans f3⟩
        rfl
      | false =>
        obtain ⟨f1, f2, f3⟩ := q_fin (A2 := ((16 * (hi + 1)) + (lo - 10)) &&& 255) false b3
        simp only [cond_true, cond_false] at f1 f2
        refine ⟨_, _, _, _, _, _, ?_, f1, b4.trans f2, b5.trans f3⟩
        rfl
    | false =>
      cases decide (9 < hi) with
      | true =>
        obtain ⟨f1, f2, f3⟩ := q_fin (A2 := ((16 * (hi - 10)) + lo) &&& 255) true b3
        simp only [cond_true, cond_false] at f1 f2
        refine ⟨_, _, _, _, _, _, ?_, f1, b4.trans f2, b5.trans f3⟩
        rfl
      | false =>
        obtain ⟨f1, f2, f3⟩ := q_fin (A2 := ((16 * hi) + lo) &&& 255) false b3
        simp only [cond_true, cond_false] at f1 f2
        refine ⟨_, _, _, _, _, _, ?_, f1, b4.trans f2, b5.trans f3⟩
        rfl
/-- a difference -/
theorem q_sbc (q : q_cpu A X Y S C Z I D V N x m) (hA : q_rgz 0 255 A) {v : Int32} (hv : q_rgz 0 255 v) : ∃ m2 A' C' Z' V' N', dz_M266_64_f m v = some m2 ∧ q_cpu A' X Y S C' Z' I D V' N' (dz_N155_87 x v) m2 ∧ q_CX x (dz_N155_87 x v) ∧ q_CM m m2 := by
  have v0 := hv.1
  have v1 := hv.2
  have z255 : (255 : Int32).toInt = 255 := rfl
  have ev : ((255 : Int32) - v).toInt = 255 - v.toInt := by rw [q_subI ⟨by decide, by decide⟩ ⟨by omega, by omega⟩]; rfl
  obtain ⟨y, m1, C1, V1, b1, b2, b3, b4, b5, b6, b7⟩ := q_bin q hA (v := (255 : Int32) - v) ⟨by omega, by omega⟩
  have e257 := q_257 q 1
  obtain ⟨t1, t2, t3⟩ := q_Fb C Z I D V N
  have qx := q.1.1
  have qm := q.1.2
  have q5 := q.2.2.2.2.1
  rw [← q_261] at b3
  have y5 := b3.2.2.2.2.1
  obtain ⟨u1, u2, u3⟩ := q_Fb C1 (decide (((A + ((255 : Int32) - v)) + q_b C) &&& 255 = 0)) I D V1 (decide (127 < ((A + ((255 : Int32) - v)) + q_b C) &&& 255))
  have n1 : vp_nar .boolean 1 = q_b true := by decide
  have n0 : vp_nar .boolean 0 = q_b false := by decide
  unfold dz_M266_64_f dz_N155_87 q_let
  dsimp only
  rw [e257, Option.bind_some, b2, Option.bind_some, b1, qx, qm, q5, t1, y5, u2, b7]
  have c1 : cond C (1 : Int32) 0 = q_b C := rfl
  rw [c1]
  cases D with
  | false =>
    refine ⟨(dz_M260_64 m1 (m1.1 14 0)).1, _, _, _, _, _, ?_, by rw [b6]; exact b3, b4, b5.trans ?_⟩
    · show (dz_M266_64_f_56 m1 v A (q_b C)) = _
      unfold dz_M266_64_f_56 q_let
      rw [b7]; rfl
    · rw [q_261]; exact (q_CM_f 4 _ rfl).trans (q_CM_f 0 _ rfl)
  | true =>
    have h56 : dz_M266_64_f_56 m1 v A (q_b C) = some (dz_M260_64 (dz_M265_64 m1 A v (q_b C)) ((dz_M265_64 m1 A v (q_b C)).1 14 0)).1 := by
      unfold dz_M266_64_f_56 q_let
      rw [b7]; rfl
    show ∃ m2 A' C' Z' V' N', dz_M266_64_f_56 m1 v A (q_b C) = some m2 ∧ _
    rw [h56]
    unfold dz_M265_64 dz_N155_87_68 q_let
    rw [n1, n0]
    simp only [q_mn1z]
    simp only [Int32.add_zero, Int32.sub_zero]
    generalize ((A - A / 16 * 16) - (v - v / 16 * 16)) - 1 + q_b C = lo
    generalize (A / 16) - (v / 16) = hi
    cases decide (lo < 0) with
    | true =>
      cases decide (hi - 1 < 0) with
      | true =>
        obtain ⟨f1, f2, f3⟩ := q_fin (A2 := ((16 * (hi - 1 + 10)) + (lo + 10)) &&& 255) false b3
        simp only [cond_true, cond_false] at f1 f2
        refine ⟨_, _, _, _, _, _, ?_, f1, b4.trans f2, b5.trans f3⟩
        rfl
      | false =>
        obtain ⟨f1, f2, f3⟩ := q_fin (A2 := ((16 * (hi - 1)) + (lo + 10)) &&& 255) true b3
        simp only [cond_true, cond_false] at f1 f2
        refine ⟨_, _, _, _, _, _, ?_, f1, b4.trans f2, b5.trans f3⟩
        rfl
    | false =>
      cases decide (hi < 0) with
      | true =>
        obtain ⟨f1, f2, f3⟩ := q_fin (A2 := ((16 * (hi + 10)) + lo) &&& 255) false b3
        simp only [cond_true, cond_false] at f1 f2
        refine ⟨_, _, _, _, _, _, ?_, f1, b4.trans f2, b5.trans f3⟩
        rfl
      | false =>
        obtain ⟨f1, f2, f3⟩ := q_fin (A2 := ((16 * hi) + lo) &&& 255) true b3
        simp only [cond_true, cond_false] at f1 f2
        refine ⟨_, _, _, _, _, _, ?_, f1, b4.trans f2, b5.trans f3⟩
        rfl
end
end
section
section
variable {TT : (Nat → Int32) → Int32 → (Nat → Int32) → Int32 → Int64 → Int64 → List Int32 → List (Nat → Int32) → (Nat → Int64) → Prop} {x y z m : q_S} {c d w : Int}
theorem q_Sd {S : Int32} (h : q_rgz 0 255 S) : (S - 1) &&& 255 = (S + 255) - (S + 255) / 256 * 256 := by
  have a := h.1
  have b := h.2
  have e1 : (S + 255).toInt = S.toInt + 255 := q_addI ⟨by omega, by omega⟩ ⟨by decide, by decide⟩
  by_cases k : S.toInt = 0
  · rw [show S = 0 from Int32.toInt_inj.mp k]; decide
  · have e2 : (S - 1).toInt = S.toInt - 1 := q_subI ⟨by omega, by omega⟩ ⟨by decide, by decide⟩
    apply Int32.toInt_inj.mp
    rw [q_rem_eq (by omega) (by decide), e1, q_andI 8 (by decide) (l := 0) (u := 254) ⟨by omega, by omega⟩ (by decide) (show (255 : Int32).toInt = 2 ^ 8 - 1 from rfl), e2]
    show (S.toInt - 1) % 256 = (S.toInt + 255) % 256
    omega
theorem q_Su {S : Int32} (h : q_rgz 0 255 S) : (S + 1) &&& 255 = (S + 1) - (S + 1) / 256 * 256 := by
  have a := h.1
  have b := h.2
  have e1 : (S + 1).toInt = S.toInt + 1 := q_addI ⟨by omega, by omega⟩ ⟨by decide, by decide⟩
  exact (q_m8z (u := 256) ⟨by omega, by omega⟩).symm
theorem q_R_s (h : q_R TT x m) (v : Int32) : q_R TT (q_sI x 23 3 v) (q_sA m 14 (upd (m.1 14) 3 v)) := by
  obtain ⟨h1, h2, h3, h4, h5, ⟨⟨p1, p2, p3, p4⟩, p5⟩, h7, h8⟩ := h
  exact ⟨h1, h2, h3, h4, h5, ⟨⟨p1, p2, p3, rfl⟩, p5⟩, h7, h8⟩
theorem q_R_p (h : q_R TT x m) (v : Int32) : q_R TT (q_sI x 23 4 v) (q_sA m 14 (upd (m.1 14) 4 v)) := by
  obtain ⟨h1, h2, h3, h4, h5, ⟨p1, p2, p3⟩, h7, h8⟩ := h
  exact ⟨h1, h2, h3, h4, h5, ⟨p1, fun _ => rfl, p3⟩, h7, h8⟩
/-- what pushes and pulls leave as they are: all words of the processor but S -/
def q_PX (x y : q_S) : Prop := (∀ k, Nat.beq k 3 = false → y.2.1 23 k = x.2.1 23 k)
def q_PM (m m2 : q_S) : Prop := m2.1 15 = m.1 15 ∧ (∀ k, (Nat.ble 5 k && Nat.ble k 9 || Nat.beq k 3) = false → m2.1 14 k = m.1 14 k)
theorem q_PX.trans (h : q_PX x y) (g : q_PX y z) : q_PX x z := fun k hk => (g k hk).trans (h k hk)
theorem q_PM.trans (h : q_PM x y) (g : q_PM y z) : q_PM x z := ⟨g.1.trans h.1, fun k hk => (g.2 k hk).trans (h.2 k hk)⟩
theorem q_push (h : q_R TT x m) (hI : q_Iv c d w m) (v : Int32) (hv : q_rgz 0 255 v) : ∃ y m2, dz_N146_87_65 x v = some y ∧ dz_M254_64 m v = some m2 ∧ q_R TT y m2 ∧ q_Iv c d w m2 ∧ q_PX x y ∧ q_PM m m2 := by
  obtain ⟨m9, e9, i9⟩ := dzj_M254_64 c d w m hI v hv
  suffices H : ∃ y m2, dz_N146_87_65 x v = some y ∧ dz_M254_64 m v = some m2 ∧ q_R TT y m2 ∧ q_PX x y ∧ q_PM m m2 by
    obtain ⟨y, m2, a1, a2, a3, a4, a5⟩ := H
    rw [e9] at a2
    cases a2
    exact ⟨y, m9, a1, e9, a3, i9, a4, a5⟩
  have gS := h.cpu.2.2.2
  have rS : q_rgz 0 255 (m.1 14 3) := hI.1 14 3
  have a := rS.1
  have b := rS.2
  have z1 : (3840 : Int32).toInt = 3840 := rfl
  have z2 : (256 : Int32).toInt = 256 := rfl
  have eA : ((256 : Int32) + m.1 14 3).toInt = 256 + (m.1 14 3).toInt := by rw [q_addI ⟨by decide, by decide⟩ ⟨by omega, by omega⟩]; omega
  have rA : q_rgz 0 4095 ((256 : Int32) + m.1 14 3) := ⟨by omega, by omega⟩
  obtain ⟨y, m2, w1, w2, w3, w4, w5, w6⟩ := q_wr94 h hI ((256 : Int32) + m.1 14 3) v rA hv
  have e215 : dz_M214_64 m ((256 : Int32) + m.1 14 3) v = some (q_sA m 1 (upd (m.1 1) ((256 : Int32) + m.1 14 3).toNatClampNeg v)) := by
    unfold dz_M214_64
    rw [q_202F (Or.inl (by omega)), q_in_rg rA (by decide) (by decide)]; rfl
  rw [e215] at w2
  cases w2
  have ys : y.2.1 23 3 = m.1 14 3 := by rw [w5.1 23 rfl]; exact gS
  refine ⟨q_sI y 23 3 (((y.2.1 23 3) - 1) &&& 255), _, ?_, ?_, q_R_s w3 _, fun k hk => ?_, ⟨rfl, fun k hk => ?_⟩⟩
  · unfold dz_N146_87_65
    rw [gS, w1]; rfl
  · unfold dz_M254_64
    rw [q_in_rg rA (by decide) (by decide), ys, q_Sd rS]; rfl
  · rw [q_sIn _ _ _ _ _ hk, w5.1 23 rfl]
  · exact q_upN _ _ (fun e => by subst e; cases hk)
theorem q_pull (h : q_R TT x m) (hI : q_Iv c d w m) : ∃ y v m2, dz_N147_87_65 x = (y, v) ∧ dz_M255_64 m = some (m2, v) ∧ q_R TT y m2 ∧ q_Iv c d w m2 ∧ q_PX x y ∧ q_PM m m2 ∧ q_rgz 0 255 v := by
  obtain ⟨⟨m9, v9⟩, e9, i9, r9⟩ := dzj_M255_64 c d w m hI
  suffices H : ∃ y v m2, dz_N147_87_65 x = (y, v) ∧ dz_M255_64 m = some (m2, v) ∧ q_R TT y m2 ∧ q_PX x y ∧ q_PM m m2 by
    obtain ⟨y, v, m2, a1, a2, a3, a4, a5⟩ := H
    rw [e9] at a2
    cases a2
    exact ⟨y, v9, m9, a1, e9, a3, i9, a4, a5, r9⟩
  have gS := h.cpu.2.2.2
  have rS : q_rgz 0 255 (m.1 14 3) := hI.1 14 3
  have r2 := q_rg_and (m.1 14 3 + 1) 255 (U := 255) (by decide) rfl
  have a := r2.1
  have b := r2.2
  have z2 : (256 : Int32).toInt = 256 := rfl
  have eA : ((256 : Int32) + ((m.1 14 3 + 1) &&& 255)).toInt = 256 + ((m.1 14 3 + 1) &&& 255).toInt := by rw [q_addI ⟨by decide, by decide⟩ ⟨by omega, by omega⟩]; omega
  have rA : q_rgz 0 4095 ((256 : Int32) + ((m.1 14 3 + 1) &&& 255)) := ⟨by omega, by omega⟩
  have kA : ((256 : Int32) + ((m.1 14 3 + 1) &&& 255)).toNatClampNeg = ((256 : Int32) + ((m.1 14 3 + 1) &&& 255)).toInt.toNat := rfl
  refine ⟨q_sI x 23 3 ((m.1 14 3 + 1) &&& 255), m.1 1 ((256 : Int32) + ((m.1 14 3 + 1) &&& 255)).toNatClampNeg, q_sA m 14 (upd (m.1 14) 3 ((m.1 14 3 + 1) &&& 255)), ?_, ?_, q_R_s h _, fun k hk => q_sIn _ _ _ _ _ hk, ⟨rfl, fun k hk => q_upN _ _ (fun e => by subst e; cases hk)⟩⟩
  · unfold dz_N147_87_65 dz_N120_66 q_let
    rw [gS]
    show (q_sI x 23 3 ((m.1 14 3 + 1) &&& 255), x.1 3 (((256 : Int32) + ((m.1 14 3 + 1) &&& 255)) &&& 4095).toNatClampNeg) = _
    rw [q_a12 rA, h.r1.1 _ (by omega)]
  · have q := q_upE (m.1 14) (i := 3) (j := 3) ((m.1 14 3 + 1) &&& 255) rfl
    unfold dz_M255_64
    rw [← q_Su rS, q, q_in_rg rA (by decide) (by decide)]; rfl
/-- an interrupt, or brk -/
theorem q_int (h : q_R TT x m) (hI : q_Iv c d w m) (from_ vec : Int32) (brk : Bool) (hf : q_rgz 0 4095 from_) : ∃ y m2, dz_N148_87_65 x from_ (cond brk (((x.2.1 23 5) ||| 32) ||| 16) ((x.2.1 23 5) ||| 32)) vec = some y ∧ dz_M259_64 m vec from_ (cond brk 16 0) = some m2 ∧ q_R TT y m2 ∧ q_Iv c d w m2 := by
  obtain ⟨m9, e9, i9⟩ := dzj_M259_64 c d w m hI vec from_ (cond brk 16 0) hf (by cases brk <;> exact ⟨by decide, by decide⟩)
  suffices H : ∃ y m2, dz_N148_87_65 x from_ (cond brk (((x.2.1 23 5) ||| 32) ||| 16) ((x.2.1 23 5) ||| 32)) vec = some y ∧ dz_M259_64 m vec from_ (cond brk 16 0) = some m2 ∧ q_R TT y m2 by
    obtain ⟨y, m2, a1, a2, a3⟩ := H
    rw [e9] at a2
    cases a2
    exact ⟨y, m9, a1, e9, a3, i9⟩
  have f0 := hf.1
  have f1 := hf.2
  have s8 : from_ >>> ((8 &&& 31 : Int32)) = from_ / 256 := by
    apply Int32.toInt_inj.mp
    rw [q_shrI 8 rfl (by decide), q_toInt_div f0 (by decide)]; rfl
  have r8 : q_rgz 0 255 (from_ / 256) := q_rg_le (q_rg_div (c := 256) (U := 15) hf (by decide) rfl (by decide) (by decide)) (by decide) (by decide)
  have m8 : from_ &&& 255 = from_ - from_ / 256 * 256 := (q_m8z hf).symm
  have rm : q_rgz 0 255 (from_ &&& 255) := q_rg_and _ 255 (by decide) rfl
  obtain ⟨y1, m1, a1, a2, a3, a4, a5, a6⟩ := q_push h hI (from_ / 256) r8
  obtain ⟨y2, m2, b1, b2, b3, b4, b5, b6⟩ := q_push a3 a4 (from_ &&& 255) rm
  obtain ⟨A, X, Y, S, C, Z, I, D, V, N, q, -⟩ := q_cpu_of b3 b4
  have q' := q
  obtain ⟨q1, q2, q3, q4, q5, q6, q7, q8, q9, q10, q11⟩ := q
  have xF : x.2.1 23 5 = q_F C Z I D V N := by rw [← q5, (a5.trans b5) 5 rfl]
  obtain ⟨-, -, t3, t4⟩ := q_Fb C Z I D V N
  generalize hst : cond brk (((x.2.1 23 5) ||| 32) ||| 16) ((x.2.1 23 5) ||| 32) = st
  have est : st = (((((q_b C + 2 * q_b Z) + 4 * q_b I) + 8 * q_b D) + cond brk 16 0) + 32) + 64 * q_b V + 128 * q_b N := by
    rw [← hst, xF]
    cases brk with
    | true => exact t4
    | false => exact t3
  have e258 : dz_M257_64 m2 (cond brk 16 0) = some st := by
    have bit : ∀ (k : Nat) (K v : Int32) (b : Bool), K.toNatClampNeg = k → q_in K 8 = true → m2.1 15 k = q_b b → dz_M256_64 m2 K v = some (v * q_b b) := fun k K v b hk hi hb => by
      unfold dz_M256_64
      rw [hi, hk, hb]
      cases b with
      | true => show some v = some (v * 1); rw [Int32.mul_one]
      | false => show some 0 = some (v * 0); rw [Int32.mul_zero]
    unfold dz_M257_64
    rw [bit 5 5 1 C rfl rfl q6, bit 4 4 2 Z rfl rfl q7, bit 3 3 4 I rfl rfl q8, bit 2 2 8 D rfl rfl q9, bit 1 1 64 V rfl rfl q10, bit 0 0 128 N rfl rfl q11]
    simp only [Option.bind_some]
    rw [est, Int32.one_mul]
  have rst : q_rgz 0 255 st := by
    obtain ⟨r, hr1, hr2⟩ := dzj_M257_64 c d w m2 b4 (cond brk 16 0) (by cases brk <;> exact ⟨by decide, by decide⟩)
    rw [e258] at hr1
    cases hr1
    exact hr2
  obtain ⟨y3, m3, c1, c2, c3, c4, c5, c6⟩ := q_push b3 b4 st rst
  -- the mask, the vector
  have y5 : y3.2.1 23 5 = q_F C Z I D V N := by rw [c5 5 rfl, q5]
  obtain ⟨ft1, ft2, ft3, ft4, ft5, -⟩ := q_Ft C Z I D V N
  obtain ⟨A', X', Y', S', C', Z', I', D', V', N', q9', -⟩ := q_cpu_of c3 c4
  obtain ⟨u1, u2, u3, u4, u5, u6, u7, u8, u9, u10, u11⟩ := q9'
  have n1 : vp_nar .boolean 1 = q_b true := by decide
  have c415 := c6.1
  have R4 : q_R TT (q_sI y3 23 5 (q_F C Z true D V N)) (q_sA m3 15 (upd (m3.1 15) 3 (q_b true))) := by
    refine q_R_C c3 (q_CX_k 5 _ rfl) (q_CM_f 3 _ rfl) (A := A') (X := X') (Y := Y') (S := S') (C := C) (Z := Z) (I := true) (D := D) (V := V) (N := N) ⟨u1, u2, u3, u4, q_sIv _ _ _ _, ?_, ?_, ?_, ?_, ?_, ?_⟩
    · show upd (m3.1 15) 3 (q_b true) 5 = _; rw [q_upN _ _ (by decide), c415]; exact q6
    · show upd (m3.1 15) 3 (q_b true) 4 = _; rw [q_upN _ _ (by decide), c415]; exact q7
    · show upd (m3.1 15) 3 (q_b true) 3 = _; exact q_upE _ _ rfl
    · show upd (m3.1 15) 3 (q_b true) 2 = _; rw [q_upN _ _ (by decide), c415]; exact q9
    · show upd (m3.1 15) 3 (q_b true) 1 = _; rw [q_upN _ _ (by decide), c415]; exact q10
    · show upd (m3.1 15) 3 (q_b true) 0 = _; rw [q_upN _ _ (by decide), c415]; exact q11
  have I4 : q_Iv c d w (q_sA m3 15 (upd (m3.1 15) 3 (q_b true))) := q_Iv_A (i := 15) c4 (q_hf_up (c4.1 15) (q_s15 ⟨by decide, by decide⟩))
  obtain ⟨lo, hi, m5, d1, d2, d3, d4, d5, d6, -⟩ := q_word R4 I4 vec
  refine ⟨q_sI (q_sI y3 23 5 (q_F C Z true D V N)) 23 4 ((lo + (256 * hi)) &&& 4095), q_sA m5 14 (upd (m5.1 14) 4 ((lo + (256 * hi)) &&& 4095)), ?_, ?_, q_R_p d5 _⟩
  · unfold dz_N148_87_65 dz_N92_65
    rw [s8, a1, Option.bind_some, b1, Option.bind_some, c1, Option.bind_some, y5, ft5, d1, Option.bind_some, d2]; rfl
  · unfold dz_M259_64
    rw [a2, Option.bind_some, ← m8, b2, Option.bind_some, e258, Option.bind_some, c2, Option.bind_some, n1, d3]; rfl
end
end
section
section
variable {TT : (Nat → Int32) → Int32 → (Nat → Int32) → Int32 → Int64 → Int64 → List Int32 → List (Nat → Int32) → (Nat → Int64) → Prop} {x y z m : q_S} {c d w : Int}
/-- reading as an instruction does: hits are 0 behind that -/
theorem q_load (h : q_R TT x m) (hI : q_Iv c d w m) (a : Int32) (ha : q_rgz 0 4095 a) : ∃ y v m2, dz_N93_65 x a = some (y, v) ∧ dz_M267_64 m a = some (m2, v) ∧ q_R TT y m2 ∧ q_Iv c d w m2 ∧ q_rgz 0 255 v ∧ y.2 = x.2 := by
  obtain ⟨⟨m9, v9⟩, e9, i9, r9⟩ := dzj_M267_64 c d w m hI a ha
  suffices H : ∃ y v m2, dz_N93_65 x a = some (y, v) ∧ dz_M267_64 m a = some (m2, v) ∧ q_R TT y m2 ∧ y.2 = x.2 by
    obtain ⟨y, v, m2, a1, a2, a3, a4⟩ := H
    rw [e9] at a2
    cases a2
    exact ⟨y, v9, m9, a1, e9, a3, i9, r9, a4⟩
  obtain ⟨v, m2, b1, b2, b3, b4, b5, b6⟩ := q_rdz h hI a ha
  have z1 : (3869 : Int32).toInt = 3869 := rfl
  have z2 : (3870 : Int32).toInt = 3870 := rfl
  unfold dz_N93_65 dz_M267_64
  rw [b1, b2, Option.bind_some, Option.bind_some]
  by_cases k1 : a.toInt = 3869
  · rw [q_eq_T (show a.toInt = (3869 : Int32).toInt by omega), q_eq_F (show ¬ a.toInt = (3870 : Int32).toInt by omega)]
    exact ⟨_, v, _, rfl, rfl, q_R_h1 b4 0, rfl⟩
  · rw [q_eq_F (show ¬ a.toInt = (3869 : Int32).toInt by omega)]
    by_cases k2 : a.toInt = 3870
    · rw [q_eq_T (show a.toInt = (3870 : Int32).toInt by omega)]
      exact ⟨_, v, _, rfl, rfl, q_R_h2 b4 0, rfl⟩
    · rw [q_eq_F (show ¬ a.toInt = (3870 : Int32).toInt by omega)]
      exact ⟨_, v, _, rfl, rfl, b4, rfl⟩
theorem q_263 (m : q_S) (k v : Int32) (a : Int32) (hk : q_in k 24 = true) (ha : (m.1 14) (k.toNatClampNeg) = a) : dz_M262_64 m k v = (cond (decide (a < v)) (q_let (dz_M260_64 (q_sA m 15 (upd (m.1 15) 5 (vp_nar .boolean 0))) ((a - v) &&& 255)) fun r995 => some r995.1) (q_let (dz_M260_64 (q_sA m 15 (upd (m.1 15) 5 (vp_nar .boolean 1))) ((a - v) &&& 255)) fun r996 => some r996.1)) := by
  unfold dz_M262_64
  rw [hk, ha]; rfl
/-- bit: three flags -/
theorem q_bitf {A X Y S : Int32} {C Z I D V N : Bool} (q : q_cpu A X Y S C Z I D V N x m) {v : Int32} (hv : q_rgz 0 255 v) : ∃ m2, dz_M268_64 m 20 v = some m2 ∧ (∃ Z' V' N', q_cpu A X Y S C Z' I D V' N' (dz_N152_87 x 20 v) m2) ∧ q_CX x (dz_N152_87 x 20 v) ∧ q_CM m m2 := by
  have n1 : vp_nar .boolean 1 = q_b true := by decide
  have n0 : vp_nar .boolean 0 = q_b false := by decide
  have h7 := q_c0 (s := m) (g := v) (p := 128) (k := 7) 7 (by decide) hv (by decide) rfl rfl
  have h6 := q_c0 (s := m) (g := v) (p := 64) (k := 6) 6 (by decide) hv (by decide) rfl rfl
  have i206 : ∀ (s : q_S) (a b : Int32), dz_M205 s a b = dz_M205 m a b := fun _ _ _ => rfl
  obtain ⟨q1, q2, q3, q4, q5, q6, q7, q8, q9, q10, q11⟩ := q
  have fz : ∀ Z, q_F C Z I D V N ||| 2 = q_F C true I D V N ∧ q_F C Z I D V N &&& ((2 : Int32) ^^^ (-1)) = q_F C false I D V N := fun Z => by
    obtain ⟨-, -, -, -, -, -, -, -, f9, f10, -⟩ := q_Ft C Z I D V N
    exact ⟨f9, f10⟩
  have fn : ∀ Z N, q_F C Z I D V N ||| 128 = q_F C Z I D V true ∧ q_F C Z I D V N &&& ((128 : Int32) ^^^ (-1)) = q_F C Z I D V false := fun Z N => by
    obtain ⟨-, -, -, -, -, -, -, -, -, -, f11, f12⟩ := q_Ft C Z I D V N
    exact ⟨f11, f12⟩
  have fv : ∀ Z V N, q_F C Z I D V N ||| 64 = q_F C Z I D true N ∧ q_F C Z I D V N &&& ((64 : Int32) ^^^ (-1)) = q_F C Z I D false N := fun Z V N => by
    obtain ⟨-, -, -, -, -, -, f7, f8, -⟩ := q_Ft C Z I D V N
    exact ⟨f7, f8⟩
  have tX : dz_N152_87 x 20 v = q_sI (q_sI (q_sI x 23 5 (q_F C (decide (A &&& v = 0)) I D V N)) 23 5 (q_F C (decide (A &&& v = 0)) I D V (dz_M205 m v 7))) 23 5 (q_F C (decide (A &&& v = 0)) I D (dz_M205 m v 6) (dz_M205 m v 7)) := by
    show (cond (decide ((x.2.1 23 0) &&& v = 0)) (q_let (dz_N149_87_t x 2) fun r295 => cond (decide (v &&& 128 = 0)) (q_let (dz_N149_87_f r295 128) fun r296 => cond (decide (v &&& 64 = 0)) (q_let (dz_N149_87_f r296 64) fun r297 => r297) (q_let (dz_N149_87_t r296 64) fun r298 => r298)) (q_let (dz_N149_87_t r295 128) fun r299 => cond (decide (v &&& 64 = 0)) (q_let (dz_N149_87_f r299 64) fun r300 => r300) (q_let (dz_N149_87_t r299 64) fun r301 => r301))) (q_let (dz_N149_87_f x 2) fun r302 => cond (decide (v &&& 128 = 0)) (q_let (dz_N149_87_f r302 128) fun r303 => cond (decide (v &&& 64 = 0)) (q_let (dz_N149_87_f r303 64) fun r304 => r304) (q_let (dz_N149_87_t r303 64) fun r305 => r305)) (q_let (dz_N149_87_t r302 128) fun r306 => cond (decide (v &&& 64 = 0)) (q_let (dz_N149_87_f r306 64) fun r307 => r307) (q_let (dz_N149_87_t r306 64) fun r308 => r308)))) = _
    rw [q1.1, h7, h6]
    unfold dz_N149_87_t dz_N149_87_f q_let
    dsimp only
    rw [q5, (fz Z).1, (fz Z).2]
    simp only [q_sIv, (fn _ _).1, (fn _ _).2, (fv _ _ _).1, (fv _ _ _).2]
    cases decide (A &&& v = 0) <;> cases dz_M205 m v 7 <;> cases dz_M205 m v 6 <;> rfl
  have tM : dz_M268_64 m 20 v = some (q_sA (q_sA (q_sA m 15 (upd (m.1 15) 4 (q_b (decide (A &&& v = 0))))) 15 (upd (upd (m.1 15) 4 (q_b (decide (A &&& v = 0)))) 0 (q_b (dz_M205 m v 7)))) 15 (upd (upd (upd (m.1 15) 4 (q_b (decide (A &&& v = 0)))) 0 (q_b (dz_M205 m v 7))) 1 (q_b (dz_M205 m v 6)))) := by
    unfold dz_M268_64 q_let
    simp only [show decide ((20 : Int32) < 0) = false from rfl, show decide ((16 : Int32) < 20) = true from rfl, cond_true, cond_false, i206 _ v 7, i206 _ v 6, q1.2, n1, n0]
    cases decide (A &&& v = 0) <;> cases dz_M205 m v 7 <;> cases dz_M205 m v 6 <;> rfl
  rw [tX, tM]
  refine ⟨_, rfl, ⟨decide (A &&& v = 0), dz_M205 m v 6, dz_M205 m v 7, ?_⟩, ((q_CX_k 5 _ rfl).trans (q_CX_k 5 _ rfl)).trans (q_CX_k 5 _ rfl), ((q_CM_f 4 _ rfl).trans (q_CM_f 0 _ rfl)).trans (q_CM_f 1 _ rfl)⟩
  have hN : ∀ k, Nat.beq k 5 = false → ∀ a b e : Int32, (q_sI (q_sI (q_sI x 23 5 a) 23 5 b) 23 5 e).2.1 23 k = x.2.1 23 k := fun k h5 a b e => (q_sIn _ _ _ _ _ h5).trans ((q_sIn _ _ _ _ _ h5).trans (q_sIn _ _ _ _ _ h5))
  have e14 : ∀ (s : q_S) (f g k : Nat → Int32), (q_sA (q_sA (q_sA s 15 f) 15 g) 15 k).1 14 = s.1 14 := fun s f g k => (q_sA2 _ _ rfl).trans ((q_sA2 _ _ rfl).trans (q_sA2 _ _ rfl))
  unfold q_cpu
  rw [e14, q_sA1, hN 0 rfl, hN 1 rfl, hN 2 rfl, hN 3 rfl]
  refine ⟨q1, q2, q3, q4, q_sIv _ _ _ _, ?_, ?_, ?_, ?_, q_upE _ _ rfl, ?_⟩
  · exact (q_upN _ _ (by decide)).trans ((q_upN _ _ (by decide)).trans ((q_upN _ _ (by decide)).trans q6))
  · exact (q_upN _ _ (by decide)).trans ((q_upN _ _ (by decide)).trans (q_upE _ _ rfl))
  · exact (q_upN _ _ (by decide)).trans ((q_upN _ _ (by decide)).trans ((q_upN _ _ (by decide)).trans q8))
  · exact (q_upN _ _ (by decide)).trans ((q_upN _ _ (by decide)).trans ((q_upN _ _ (by decide)).trans q9))
  · exact (q_upN _ _ (by decide)).trans (q_upE _ _ rfl)
end
end
section
section
variable {TT : (Nat → Int32) → Int32 → (Nat → Int32) → Int32 → Int64 → Int64 → List Int32 → List (Nat → Int32) → (Nat → Int64) → Prop} {x y z m : q_S} {c d w : Int}
/-- an operation that reads -/
theorem q_ops (h : q_R TT x m) (hI : q_Iv c d w m) (op v : Int32) (ho : q_rgz 0 20 op) (hw : dz_M244 m op = false) (hv : q_rgz 0 255 v) : ∃ m2, dz_M268_64 m op v = some m2 ∧ q_R TT (dz_N152_87 x op v) m2 ∧ q_Iv c d w m2 := by
  obtain ⟨m9, e9, i9⟩ := dzj_M268_64 c d w m hI op v hv
  suffices H : ∃ m2, dz_M268_64 m op v = some m2 ∧ q_R TT (dz_N152_87 x op v) m2 by
    obtain ⟨m2, a1, a2⟩ := H
    rw [e9] at a1
    cases a1
    exact ⟨m9, e9, a2, i9⟩
  obtain ⟨A, X, Y, S, C, Z, I, D, V, N, q, rA, rX, rY, rS⟩ := q_cpu_of h hI
  have a0 := ho.1
  have a1 := ho.2
  have jX : ∀ u : Int32, (dz_N150_87 x u).2 = u := fun u => (q_jud q u).1
  have cx : ∀ u : Int32, q_CX x (dz_N150_87 x u).1 := fun u => (q_jud q u).2.2.2.1
  have cm : ∀ u : Int32, q_CM m (dz_M260_64 m u).1 := fun u => (q_jud q u).2.2.2.2
  have Aq := q.1.1
  have Am := q.1.2
  rcases (by omega : op.toInt = 0 ∨ op.toInt = 1 ∨ op.toInt = 2 ∨ op.toInt = 3 ∨ op.toInt = 4 ∨ op.toInt = 5 ∨ op.toInt = 6 ∨ op.toInt = 7 ∨ op.toInt = 8 ∨ op.toInt = 9 ∨ op.toInt = 10 ∨ op.toInt = 11 ∨ op.toInt = 12 ∨ op.toInt = 13 ∨ op.toInt = 14 ∨ op.toInt = 15 ∨ op.toInt = 16 ∨ op.toInt = 17 ∨ op.toInt = 18 ∨ op.toInt = 19 ∨ op.toInt = 20) with e | e | e | e | e | e | e | e | e | e | e | e | e | e | e | e | e | e | e | e | e
  · rw [show op = 0 from Int32.toInt_inj.mp e]
    have tX : dz_N152_87 x 0 v = q_sI (dz_N150_87 x (v)).1 23 0 (v) := by
      show q_sI (dz_N150_87 x (v)).1 23 0 (dz_N150_87 x (v)).2 = _
      rw [jX]
    rw [tX]
    obtain ⟨⟨b1, b2⟩, -, -⟩ := q_bec q v
    refine ⟨_, ?_, q_R_C h ((cx v).trans (q_CX_k 0 v rfl)) ((cm v).trans (q_CM_n 0 v rfl)) b2⟩
    · show ((dz_M261_64 m 0 v).bind fun r1106 => some r1106) = _
      rw [b1]; rfl
  · rw [show op = 1 from Int32.toInt_inj.mp e]
    have tX : dz_N152_87 x 1 v = q_sI (dz_N150_87 x (v)).1 23 1 (v) := by
      show q_sI (dz_N150_87 x (v)).1 23 1 (dz_N150_87 x (v)).2 = _
      rw [jX]
    rw [tX]
    obtain ⟨-, ⟨b1, b2⟩, -⟩ := q_bec q v
    refine ⟨_, ?_, q_R_C h ((cx v).trans (q_CX_k 1 v rfl)) ((cm v).trans (q_CM_n 1 v rfl)) b2⟩
    · show ((dz_M261_64 m 1 v).bind fun r1106 => some r1106) = _
      rw [b1]; rfl
  · rw [show op = 2 from Int32.toInt_inj.mp e]
    have tX : dz_N152_87 x 2 v = q_sI (dz_N150_87 x (v)).1 23 2 (v) := by
      show q_sI (dz_N150_87 x (v)).1 23 2 (dz_N150_87 x (v)).2 = _
      rw [jX]
    rw [tX]
    obtain ⟨-, -, ⟨b1, b2⟩⟩ := q_bec q v
    refine ⟨_, ?_, q_R_C h ((cx v).trans (q_CX_k 2 v rfl)) ((cm v).trans (q_CM_n 2 v rfl)) b2⟩
    · show ((dz_M261_64 m 2 v).bind fun r1106 => some r1106) = _
      rw [b1]; rfl
  · rw [show op = 3 from Int32.toInt_inj.mp e] at hw; cases hw
  · rw [show op = 4 from Int32.toInt_inj.mp e] at hw; cases hw
  · rw [show op = 5 from Int32.toInt_inj.mp e] at hw; cases hw
  · rw [show op = 6 from Int32.toInt_inj.mp e]
    obtain ⟨m2, A', C', Z', V', N', b1, b2, b3, b4⟩ := q_adc q rA hv
    refine ⟨m2, ?_, q_R_C h b3 b4 b2⟩
    show ((dz_M266_64_t m v).bind fun r1171 => some r1171) = _
    rw [b1]; rfl
  · rw [show op = 7 from Int32.toInt_inj.mp e]
    obtain ⟨m2, A', C', Z', V', N', b1, b2, b3, b4⟩ := q_sbc q rA hv
    refine ⟨m2, ?_, q_R_C h b3 b4 b2⟩
    show ((dz_M266_64_f m v).bind fun r1171 => some r1171) = _
    rw [b1]; rfl
  · rw [show op = 8 from Int32.toInt_inj.mp e]
    have tX : dz_N152_87 x 8 v = q_sI (dz_N150_87 x (A &&& v)).1 23 0 (A &&& v) := by
      show q_sI (dz_N150_87 x ((x.2.1 23 0) &&& v)).1 23 0 (dz_N150_87 x ((x.2.1 23 0) &&& v)).2 = _
      rw [Aq, jX]
    rw [tX]
    obtain ⟨⟨b1, b2⟩, -, -⟩ := q_bec q (A &&& v)
    refine ⟨_, ?_, q_R_C h ((cx (A &&& v)).trans (q_CX_k 0 (A &&& v) rfl)) ((cm (A &&& v)).trans (q_CM_n 0 (A &&& v) rfl)) b2⟩
    · show ((dz_M261_64 m 0 ((m.1 14 0) &&& v)).bind fun r1106 => some r1106) = _
      rw [Am, b1]; rfl
  · rw [show op = 9 from Int32.toInt_inj.mp e]
    have tX : dz_N152_87 x 9 v = q_sI (dz_N150_87 x (A ||| v)).1 23 0 (A ||| v) := by
      show q_sI (dz_N150_87 x ((x.2.1 23 0) ||| v)).1 23 0 (dz_N150_87 x ((x.2.1 23 0) ||| v)).2 = _
      rw [Aq, jX]
    rw [tX]
    obtain ⟨⟨b1, b2⟩, -, -⟩ := q_bec q (A ||| v)
    refine ⟨_, ?_, q_R_C h ((cx (A ||| v)).trans (q_CX_k 0 (A ||| v) rfl)) ((cm (A ||| v)).trans (q_CM_n 0 (A ||| v) rfl)) b2⟩
    · show ((dz_M261_64 m 0 ((m.1 14 0) ||| v)).bind fun r1106 => some r1106) = _
      rw [Am, b1]; rfl
  · rw [show op = 10 from Int32.toInt_inj.mp e]
    have tX : dz_N152_87 x 10 v = q_sI (dz_N150_87 x (A ^^^ v)).1 23 0 (A ^^^ v) := by
      show q_sI (dz_N150_87 x ((x.2.1 23 0) ^^^ v)).1 23 0 (dz_N150_87 x ((x.2.1 23 0) ^^^ v)).2 = _
      rw [Aq, jX]
    rw [tX]
    obtain ⟨⟨b1, b2⟩, -, -⟩ := q_bec q (A ^^^ v)
    refine ⟨_, ?_, q_R_C h ((cx (A ^^^ v)).trans (q_CX_k 0 (A ^^^ v) rfl)) ((cm (A ^^^ v)).trans (q_CM_n 0 (A ^^^ v) rfl)) b2⟩
    · show ((dz_M261_64 m 0 ((m.1 14 0) ^^^ v)).bind fun r1106 => some r1106) = _
      rw [Am, b1]; rfl
  · rw [show op = 11 from Int32.toInt_inj.mp e]
    obtain ⟨y, m2, b1, b2, b3, b4, b5⟩ := q_cmp q A v
    refine ⟨m2, ?_, ?_⟩
    · show ((dz_M262_64 m 0 v).bind fun r => some r) = _
      rw [q_263 m 0 v A rfl Am, b2]; rfl
    · show q_R TT (dz_N151_87 x (x.2.1 23 0) v) m2
      rw [Aq, b1]; exact q_R_C h b4 b5 b3
  · rw [show op = 12 from Int32.toInt_inj.mp e]
    obtain ⟨y, m2, b1, b2, b3, b4, b5⟩ := q_cmp q X v
    refine ⟨m2, ?_, ?_⟩
    · show ((dz_M262_64 m 1 v).bind fun r => some r) = _
      rw [q_263 m 1 v X rfl q.2.1.2, b2]; rfl
    · show q_R TT (dz_N151_87 x (x.2.1 23 1) v) m2
      rw [q.2.1.1, b1]; exact q_R_C h b4 b5 b3
  · rw [show op = 13 from Int32.toInt_inj.mp e]
    obtain ⟨y, m2, b1, b2, b3, b4, b5⟩ := q_cmp q Y v
    refine ⟨m2, ?_, ?_⟩
    · show ((dz_M262_64 m 2 v).bind fun r => some r) = _
      rw [q_263 m 2 v Y rfl q.2.2.1.2, b2]; rfl
    · show q_R TT (dz_N151_87 x (x.2.1 23 2) v) m2
      rw [q.2.2.1.1, b1]; exact q_R_C h b4 b5 b3
  · rw [show op = 14 from Int32.toInt_inj.mp e] at hw; cases hw
  · rw [show op = 15 from Int32.toInt_inj.mp e] at hw; cases hw
  · rw [show op = 16 from Int32.toInt_inj.mp e]
    have tX : dz_N152_87 x 16 v = q_sI (q_sI (dz_N150_87 x v).1 23 1 v) 23 0 v := by
      show q_sI (q_sI (dz_N150_87 x v).1 23 1 (dz_N150_87 x v).2) 23 0 v = _
      rw [jX]
    rw [tX]
    obtain ⟨⟨b1, b2⟩, -, -⟩ := q_bec q v
    refine ⟨q_sA (q_sA (dz_M260_64 m v).1 14 (upd ((dz_M260_64 m v).1.1 14) 0 v)) 14 (upd (upd ((dz_M260_64 m v).1.1 14) 0 v) 1 v), ?_, q_R_C h (((cx v).trans (q_CX_k 1 v rfl)).trans (q_CX_k 0 v rfl)) (((cm v).trans (q_CM_n 0 v rfl)).trans (q_CM_n 1 v rfl)) ?_ (A := v) (X := v) (Y := Y) (S := S) (C := C) (Z := decide (v = 0)) (I := I) (D := D) (V := V) (N := decide (127 < v))⟩
    · show ((dz_M261_64 m 0 v).bind fun r => some (q_sA r 14 (upd (r.1 14) 1 v))) = _
      rw [b1]; rfl
    · obtain ⟨j1, j2, j3, j4, j5⟩ := q_jud q v
      have t := (j3.wx v).wa v
      obtain ⟨t1, t2, t3, t4, t5, t6⟩ := t
      exact ⟨⟨t1.1, rfl⟩, ⟨t2.1, rfl⟩, ⟨t3.1, t3.2⟩, ⟨t4.1, t4.2⟩, t5, t6⟩
  · rw [show op = 17 from Int32.toInt_inj.mp e] at hw; cases hw
  · rw [show op = 18 from Int32.toInt_inj.mp e] at hw; cases hw
  · rw [show op = 19 from Int32.toInt_inj.mp e] at hw; cases hw
  · rw [show op = 20 from Int32.toInt_inj.mp e]
    obtain ⟨m2, b1, ⟨Z', V', N', b2⟩, b3, b4⟩ := q_bitf q hv
    exact ⟨m2, b1, q_R_C h b3 b4 b2⟩
end
end
section
section
variable {TT : (Nat → Int32) → Int32 → (Nat → Int32) → Int32 → Int64 → Int64 → List Int32 → List (Nat → Int32) → (Nat → Int64) → Prop} {x y z m : q_S} {c d w : Int}
/-- an operation that writes -/
theorem q_chg (h : q_R TT x m) (hI : q_Iv c d w m) (op a : Int32) (ho : q_rgz 0 20 op) (hw : dz_M244 m op = true) (ha : q_rgz 0 4095 a) : ∃ y m2, dz_N153_87_65 x op a = some y ∧ dz_M269_64 m op a = some m2 ∧ q_R TT y m2 ∧ q_Iv c d w m2 := by
  obtain ⟨m9, e9, i9⟩ := dzj_M269_64 c d w m hI op a ha
  suffices H : ∃ y m2, dz_N153_87_65 x op a = some y ∧ dz_M269_64 m op a = some m2 ∧ q_R TT y m2 by
    obtain ⟨y, m2, a1, a2, a3⟩ := H
    rw [e9] at a2
    cases a2
    exact ⟨y, m9, a1, e9, a3, i9⟩
  obtain ⟨A, X, Y, S, C, Z, I, D, V, N, q, rA, rX, rY, rS⟩ := q_cpu_of h hI
  have a0 := ho.1
  have a1 := ho.2
  -- a plain write
  have st : ∀ v : Int32, q_rgz 0 255 v → ∃ y m2, ((dz_N94_65 x a v).bind fun r => some r) = some y ∧ ((dz_M214_64 m a v).bind fun r => some r) = some m2 ∧ q_R TT y m2 := fun v hv => by
    obtain ⟨y, m2, w1, w2, w3, w4, w5, w6⟩ := q_wr94 h hI a v ha hv
    exact ⟨y, m2, by rw [w1]; rfl, by rw [w2]; rfl, w3⟩
  -- a write of what was read, and then
  have ch : ∀ u : Int32 → Int32, (∀ v, q_rgz 0 255 (u v)) → ∃ y v m2 m3 z A' X' Y' S' C' Z' I' D' V' N', dz_N93_65 x a = some (y, v) ∧ dz_M267_64 m a = some (m2, v) ∧ dz_N94_65 y a (u v) = some z ∧ dz_M214_64 m2 a (u v) = some m3 ∧ q_R TT z m3 ∧ q_Iv c d w m3 ∧ q_cpu A' X' Y' S' C' Z' I' D' V' N' z m3 ∧ q_rgz 0 255 A' := fun u hu => by
    obtain ⟨y, v, m2, l1, l2, l3, l4, l5, l6⟩ := q_load h hI a ha
    obtain ⟨z, m3, w1, w2, w3, w4, w5, w6⟩ := q_wr94 l3 l4 a (u v) ha (hu v)
    obtain ⟨A', X', Y', S', C', Z', I', D', V', N', q', rA', -⟩ := q_cpu_of w3 w4
    exact ⟨y, v, m2, m3, z, A', X', Y', S', C', Z', I', D', V', N', l1, l2, w1, w2, w3, w4, q', rA'⟩
  have r255 : ∀ v : Int32, q_rgz 0 255 (v &&& 255) := fun v => q_rg_and v 255 (by decide) rfl
  have em : ∀ v : Int32, v + (-1) = v - 1 := q_mn1z
  rcases (by omega : op.toInt = 0 ∨ op.toInt = 1 ∨ op.toInt = 2 ∨ op.toInt = 3 ∨ op.toInt = 4 ∨ op.toInt = 5 ∨ op.toInt = 6 ∨ op.toInt = 7 ∨ op.toInt = 8 ∨ op.toInt = 9 ∨ op.toInt = 10 ∨ op.toInt = 11 ∨ op.toInt = 12 ∨ op.toInt = 13 ∨ op.toInt = 14 ∨ op.toInt = 15 ∨ op.toInt = 16 ∨ op.toInt = 17 ∨ op.toInt = 18 ∨ op.toInt = 19 ∨ op.toInt = 20) with e | e | e | e | e | e | e | e | e | e | e | e | e | e | e | e | e | e | e | e | e
  · rw [show op = 0 from Int32.toInt_inj.mp e] at hw; cases hw
  · rw [show op = 1 from Int32.toInt_inj.mp e] at hw; cases hw
  · rw [show op = 2 from Int32.toInt_inj.mp e] at hw; cases hw
  · rw [show op = 3 from Int32.toInt_inj.mp e]
    obtain ⟨y, m2, b1, b2, b3⟩ := st A rA
    refine ⟨y, m2, ?_, ?_, b3⟩
    · show ((dz_N94_65 x a (x.2.1 23 0)).bind fun r => some r) = _
      rw [q.1.1]; exact b1
    · show ((dz_M214_64 m a (m.1 14 0)).bind fun r => some r) = _
      rw [q.1.2]; exact b2
  · rw [show op = 4 from Int32.toInt_inj.mp e]
    obtain ⟨y, m2, b1, b2, b3⟩ := st X rX
    refine ⟨y, m2, ?_, ?_, b3⟩
    · show ((dz_N94_65 x a (x.2.1 23 1)).bind fun r => some r) = _
      rw [q.2.1.1]; exact b1
    · show ((dz_M214_64 m a (m.1 14 1)).bind fun r => some r) = _
      rw [q.2.1.2]; exact b2
  · rw [show op = 5 from Int32.toInt_inj.mp e]
    obtain ⟨y, m2, b1, b2, b3⟩ := st Y rY
    refine ⟨y, m2, ?_, ?_, b3⟩
    · show ((dz_N94_65 x a (x.2.1 23 2)).bind fun r => some r) = _
      rw [q.2.2.1.1]; exact b1
    · show ((dz_M214_64 m a (m.1 14 2)).bind fun r => some r) = _
      rw [q.2.2.1.2]; exact b2
  · rw [show op = 6 from Int32.toInt_inj.mp e] at hw; cases hw
  · rw [show op = 7 from Int32.toInt_inj.mp e] at hw; cases hw
  · rw [show op = 8 from Int32.toInt_inj.mp e] at hw; cases hw
  · rw [show op = 9 from Int32.toInt_inj.mp e] at hw; cases hw
  · rw [show op = 10 from Int32.toInt_inj.mp e] at hw; cases hw
  · rw [show op = 11 from Int32.toInt_inj.mp e] at hw; cases hw
  · rw [show op = 12 from Int32.toInt_inj.mp e] at hw; cases hw
  · rw [show op = 13 from Int32.toInt_inj.mp e] at hw; cases hw
  · rw [show op = 14 from Int32.toInt_inj.mp e]
    obtain ⟨y, v, m2, m3, z, A', X', Y', S', C', Z', I', D', V', N', l1, l2, w1, w2, w3, w4, q', rA'⟩ := ch (fun v => (v + 1) &&& 255) (fun v => r255 _)
    obtain ⟨j1, j2, j3, j4, j5⟩ := q_jud q' ((v + 1) &&& 255)
    refine ⟨(dz_N150_87 z ((v + 1) &&& 255)).1, (dz_M260_64 m3 ((v + 1) &&& 255)).1, ?_, ?_, q_R_C w3 j4 j5 j3⟩
    · show ((dz_N93_65 x a).bind fun r322 => (dz_N94_65 r322.1 a ((r322.2 + 1) &&& 255)).bind fun r323 => some (dz_N150_87 r323 ((r322.2 + 1) &&& 255)).1) = _
      rw [l1, Option.bind_some, w1]; rfl
    · show ((dz_M267_64 m a).bind fun r1024 => (dz_M214_64 r1024.1 a ((r1024.2 + 1) &&& 255)).bind fun r994 => some (dz_M260_64 r994 ((r1024.2 + 1) &&& 255)).1) = _
      rw [l2, Option.bind_some, w2]; rfl
  · rw [show op = 15 from Int32.toInt_inj.mp e]
    obtain ⟨y, v, m2, m3, z, A', X', Y', S', C', Z', I', D', V', N', l1, l2, w1, w2, w3, w4, q', rA'⟩ := ch (fun v => (v - 1) &&& 255) (fun v => r255 _)
    obtain ⟨j1, j2, j3, j4, j5⟩ := q_jud q' ((v - 1) &&& 255)
    refine ⟨(dz_N150_87 z ((v - 1) &&& 255)).1, (dz_M260_64 m3 ((v - 1) &&& 255)).1, ?_, ?_, q_R_C w3 j4 j5 j3⟩
    · show ((dz_N93_65 x a).bind fun r327 => (dz_N94_65 r327.1 a ((r327.2 + (-1)) &&& 255)).bind fun r328 => some (dz_N150_87 r328 ((r327.2 + (-1)) &&& 255)).1) = _
      rw [l1, Option.bind_some]
      simp only [em]
      rw [w1]; rfl
    · show ((dz_M267_64 m a).bind fun r1024 => (dz_M214_64 r1024.1 a ((r1024.2 - 1) &&& 255)).bind fun r994 => some (dz_M260_64 r994 ((r1024.2 - 1) &&& 255)).1) = _
      rw [l2, Option.bind_some, w2]; rfl
  · rw [show op = 16 from Int32.toInt_inj.mp e] at hw; cases hw
  · rw [show op = 17 from Int32.toInt_inj.mp e]
    obtain ⟨y, m2, b1, b2, b3⟩ := st (A &&& X) (q_rg_le (q_rg_and1 rA (by decide)) (by decide) (by decide))
    refine ⟨y, m2, ?_, ?_, b3⟩
    · show ((dz_N94_65 x a ((x.2.1 23 0) &&& (x.2.1 23 1))).bind fun r => some r) = _
      rw [q.1.1, q.2.1.1]; exact b1
    · show ((dz_M214_64 m a ((m.1 14 0) &&& (m.1 14 1))).bind fun r => some r) = _
      rw [q.1.2, q.2.1.2]; exact b2
  · rw [show op = 18 from Int32.toInt_inj.mp e]
    obtain ⟨y, v, m2, m3, z, A', X', Y', S', C', Z', I', D', V', N', l1, l2, w1, w2, w3, w4, q', rA'⟩ := ch (fun v => (v - 1) &&& 255) (fun v => r255 _)
    obtain ⟨y9, m4, b1, b2, b3, b4, b5⟩ := q_cmp q' A' ((v - 1) &&& 255)
    refine ⟨y9, m4, ?_, ?_, q_R_C w3 b4 b5 b3⟩
    · show ((dz_N93_65 x a).bind fun r327 => (dz_N94_65 r327.1 a ((r327.2 + (-1)) &&& 255)).bind fun r328 => some (dz_N151_87 r328 (r328.2.1 23 0) ((r327.2 + (-1)) &&& 255))) = _
      rw [l1, Option.bind_some]
      simp only [em]
      rw [w1, Option.bind_some, q'.1.1, b1]
    · show ((dz_M267_64 m a).bind fun r1024 => (dz_M214_64 r1024.1 a ((r1024.2 - 1) &&& 255)).bind fun r994 => (dz_M262_64 r994 0 ((r1024.2 - 1) &&& 255)).bind fun r => some r) = _
      rw [l2, Option.bind_some, w2, Option.bind_some, q_263 m3 0 _ A' rfl q'.1.2, b2]; rfl
  · rw [show op = 19 from Int32.toInt_inj.mp e]
    obtain ⟨y, v, m2, m3, z, A', X', Y', S', C', Z', I', D', V', N', l1, l2, w1, w2, w3, w4, q', rA'⟩ := ch (fun v => (v + 1) &&& 255) (fun v => r255 _)
    obtain ⟨m4, A9, C9, Z9, V9, N9, b1, b2, b3, b4⟩ := q_sbc q' rA' (r255 (v + 1))
    refine ⟨dz_N155_87 z ((v + 1) &&& 255), m4, ?_, ?_, q_R_C w3 b3 b4 b2⟩
    · show ((dz_N93_65 x a).bind fun r322 => (dz_N94_65 r322.1 a ((r322.2 + 1) &&& 255)).bind fun r323 => some (dz_N155_87 r323 ((r322.2 + 1) &&& 255))) = _
      rw [l1, Option.bind_some, w1]; rfl
    · show ((dz_M267_64 m a).bind fun r1024 => (dz_M214_64 r1024.1 a ((r1024.2 + 1) &&& 255)).bind fun r994 => (dz_M266_64_f r994 ((r1024.2 + 1) &&& 255)).bind fun r => some r) = _
      rw [l2, Option.bind_some, w2, Option.bind_some, b1]; rfl
  · rw [show op = 20 from Int32.toInt_inj.mp e] at hw; cases hw
end
end
